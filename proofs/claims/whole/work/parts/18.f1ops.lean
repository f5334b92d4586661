theorem cx_clr20 {b F : Nat} {row : FI} {num : FJ} {K : Int64 → Int32 → Option (Int64 × FI × FJ × Int32)} (hb : b ≤ 2) (hF : F ≤ 16) (r6 : row 6 = nI F) : f_Model_clear_L20 (nI b) row num K 200 0 0 = K (cx_sL (cx_vt b num) F) (nI F) := by
  refine cx_lf (fun n j (s : Int64) => f_Model_clear_L20 (nI b) row num K n s (nI j)) (fun s => K s (nI F)) (fun j => cx_sL (cx_vt b num) j) F (fun n => ?_) (fun n j hj => ?_) 200 0 (by omega) (by omega)
  · show f_Model_clear_L20 (nI b) row num K (n + 1) _ (nI F) = _
    rw [f_Model_clear_L20, if_pos (show ck 6 1002 = true from rfl), cx_n6, r6, if_pos (nI_le (Nat.le_refl _) (by omega))]
  · show f_Model_clear_L20 (nI b) row num K (n + 1) _ (nI j) = f_Model_clear_L20 (nI b) row num K n _ (nI (j + 1))
    rw [f_Model_clear_L20, if_pos (show ck 6 1002 = true from rfl), cx_n6, r6, if_neg (nI_ge hj (by omega)), cx_truthAt hb (by omega), cx_ob, nI_1]
    rfl
theorem p_clear (x : Int32) {M D K N Q R F : Nat} {ks : FI} {t1 : FJ} {r1 m1 : FI} {n1 : FJ} {t2 : FJ} {r2 m2 : FI} {n2 : FJ} {h : HistoryS} {saved : Int32} {row : FI} {num : FJ} (h0 : RS 0 (nI M) (nI D) (nI K) (nI N) (nI Q) (nI R) (nI F) ks t1 r1 m1 n1 t2 r2 m2 n2 row num) (hn : SOKn M D K N Q R F ks t1 r1 m1 n1 t2 r2 m2 n2) (H : HR h saved row num) : OUTP (f_CB_clear 200 x ((((((nI M, nI D), nI K), ((nI N, nI Q), nI R)), nI F), ks), (((t1, r1), (m1, n1)), ((t2, r2), (m2, n2)))) h) (f_Model_clear 200 x row num saved) := by
  unfold f_CB_clear f_Model_clear
  rw [p_isBraid.1, p_isBraid.2]
  by_cases hx : (0 : Int32) ≤ x ∧ x ≤ 1
  · simp only [if_pos hx, cx_ob, cx_i10, if_false]
    obtain ⟨h', row', num', sv, g1, g2, g3, g4, g5, g6⟩ := p_push (s := ((((((nI M, nI D), nI K), ((nI N, nI Q), nI R)), nI F), ks), (((t1, r1), (m1, n1)), ((t2, r2), (m2, n2))))) h0 (sok_in hn) H
    have g6 : RS 0 (nI M) (nI D) (nI K) (nI N) (nI Q) (nI R) (nI F) ks t1 r1 m1 n1 t2 r2 m2 n2 row' num' := g6
    obtain ⟨_, _, _, _, Z1, Z2, _, _⟩ := st_all g6 hn
    obtain ⟨⟨f0, f1, f2, f3, f4, f5, f6⟩, dk, d1, d2, d3, d4⟩ := RS0_out g6
    obtain ⟨s1, s2, s3, s4, s5, s6, s7, s8, s9, s10, s11, s12, s13⟩ := hn
    simp only [g1, g2, cx_ob]
    rcases braid_cases hx with rfl | rfl
    · obtain ⟨ra, na, e1, e2, e3⟩ := cx_empties (b := 0) (by omega) row' num'
      have e1 : f_Model_empties 200 0 row' num' = some (ra, na) := e1
      have e4 : ∀ K, f_Model_clear_L20 0 row' num' K 200 0 0 = K (cx_sL (cx_vt 0 num') F) (nI F) := fun K => cx_clr20 (b := 0) (by omega) s7 f6
      simp only [eq_self, if_true, if_false, cx_i10, cx_sumT, cx_ob, e1, e4]
      refine ⟨_, _, rfl, rfl, (cx_sL_ext s7 (fun i h1 h2 => Z1 i h2 h1)).trans (cx_sL_eq fun i hi => (d3 i (by omega)).1.symm), ⟨RS0_mk ⟨(e2 _).trans ((if_neg (by omega)).trans f0), (e2 _).trans ((if_neg (by omega)).trans f1), (e2 _).trans ((if_neg (by omega)).trans f2), (e2 _).trans ((if_neg (by omega)).trans f3), (e2 _).trans ((if_neg (by omega)).trans f4), (e2 _).trans ((if_neg (by omega)).trans f5), (e2 _).trans ((if_neg (by omega)).trans f6)⟩ (fun i hi => (e2 _).trans ((if_neg (by omega)).trans (dk i hi)))
        (fun c hc => ⟨(e2 _).trans (if_pos (by omega)), (e2 _).trans (if_pos (by omega))⟩)
        (fun c hc => ⟨(e2 _).trans ((if_neg (by omega)).trans (d2 c hc).1), (e2 _).trans ((if_neg (by omega)).trans (d2 c hc).2)⟩)
        (fun i hi => ⟨(e3 _).trans (if_pos (by omega)), (e3 _).trans (if_pos (by omega))⟩)
        (fun i hi => ⟨(e3 _).trans ((if_neg (by omega)).trans (d4 i hi).1), (e3 _).trans ((if_neg (by omega)).trans (d4 i hi).2)⟩), sok_in ⟨s1, s2, s3, s4, s5, s6, s7, s8, s9, fun i hi => ?_, fun i hi hF => ⟨rfl, (s11 i hi hF).2⟩, sem0, s13⟩⟩, HR_frame g3 (fun y hy => (e2 y).trans (if_neg (by omega))) (fun y hy => (e3 y).trans (if_neg (by omega)))⟩
      obtain ⟨a', b', ha', hb', ea', eb'⟩ := s10 i hi
      exact ⟨0, b', by omega, hb', rfl, eb'⟩
    · obtain ⟨ra, na, e1, e2, e3⟩ := cx_empties (b := 1) (by omega) row' num'
      have e1 : f_Model_empties 200 1 row' num' = some (ra, na) := e1
      have e4 : ∀ K, f_Model_clear_L20 1 row' num' K 200 0 0 = K (cx_sL (cx_vt 1 num') F) (nI F) := fun K => cx_clr20 (b := 1) (by omega) s7 f6
      simp only [eq_self, if_true, if_false, cx_i10, cx_sumT, cx_ob, e1, e4]
      refine ⟨_, _, rfl, rfl, (cx_sL_ext s7 (fun i h1 h2 => Z2 i h2 h1)).trans (cx_sL_eq fun i hi => (d4 i (by omega)).1.symm), ⟨RS0_mk ⟨(e2 _).trans ((if_neg (by omega)).trans f0), (e2 _).trans ((if_neg (by omega)).trans f1), (e2 _).trans ((if_neg (by omega)).trans f2), (e2 _).trans ((if_neg (by omega)).trans f3), (e2 _).trans ((if_neg (by omega)).trans f4), (e2 _).trans ((if_neg (by omega)).trans f5), (e2 _).trans ((if_neg (by omega)).trans f6)⟩ (fun i hi => (e2 _).trans ((if_neg (by omega)).trans (dk i hi)))
        (fun c hc => ⟨(e2 _).trans ((if_neg (by omega)).trans (d1 c hc).1), (e2 _).trans ((if_neg (by omega)).trans (d1 c hc).2)⟩)
        (fun c hc => ⟨(e2 _).trans (if_pos (by omega)), (e2 _).trans (if_pos (by omega))⟩)
        (fun i hi => ⟨(e3 _).trans ((if_neg (by omega)).trans (d3 i hi).1), (e3 _).trans ((if_neg (by omega)).trans (d3 i hi).2)⟩)
        (fun i hi => ⟨(e3 _).trans (if_pos (by omega)), (e3 _).trans (if_pos (by omega))⟩), sok_in ⟨s1, s2, s3, s4, s5, s6, s7, s8, s9, fun i hi => ?_, fun i hi hF => ⟨(s11 i hi hF).1, rfl⟩, s12, sem0⟩⟩, HR_frame g3 (fun y hy => (e2 y).trans (if_neg (by omega))) (fun y hy => (e3 y).trans (if_neg (by omega)))⟩
      obtain ⟨a', b', ha', hb', ea', eb'⟩ := s10 i hi
      exact ⟨a', 0, ha', by omega, ea', rfl⟩
  · simp only [if_neg hx, cx_ob, if_true, eq_self]
    exact OUTP_same h0 hn H
def cx_hs (h : Int64) (g : Nat → Int64) : Nat → Int64
  | 0 => h
  | n + 1 => 31 * cx_hs h g n + g n
theorem cx_hs_eq {h h' : Int64} {g g' : Nat → Int64} (e0 : h = h') : ∀ {n : Nat}, (∀ i, i < n → g i = g' i) → cx_hs h g n = cx_hs h' g' n := by
  intro n
  induction n with
  | zero => intro _; exact e0
  | succ n ih => intro e; rw [cx_hs, cx_hs, ih (fun i hi => e i (by omega)), e n (by omega)]
theorem cx_hs_app {h : Int64} {g g' : Nat → Int64} {a : Nat} : ∀ {n : Nat}, (∀ i, i < n → g (a + i) = g' i) → cx_hs h g (a + n) = cx_hs (cx_hs h g a) g' n := by
  intro n
  induction n with
  | zero => intro _; rfl
  | succ n ih => intro e; rw [← Nat.add_assoc, cx_hs, cx_hs, ih (fun i hi => e i (by omega)), e n (by omega)]
def cx_h2 (h : Int64) (g g' : Nat → Int64) : Nat → Int64
  | 0 => h
  | n + 1 => 31 * (31 * cx_h2 h g g' n + g n) + g' n
theorem cx_h2_eq {h h' : Int64} {g g' k k' : Nat → Int64} (e0 : h = h') : ∀ {n : Nat}, (∀ i, i < n → g i = k i ∧ g' i = k' i) → cx_h2 h g g' n = cx_h2 h' k k' n := by
  intro n
  induction n with
  | zero => intro _; exact e0
  | succ n ih => intro e; rw [cx_h2, cx_h2, ih (fun i hi => e i (by omega)), (e n (by omega)).1, (e n (by omega)).2]
/-- a braid's part of the hash -/
def cx_hB (h : Int64) (F M N : Nat) (t : FJ) (r m : FI) (n : FJ) : Int64 := cx_hs (cx_h2 (cx_hs h t F) (fun c => (r c).toInt64) (fun c => (m c).toInt64) M) n N
theorem cx_hb_f {M N F : Nat} {h : Int64} {t : FJ} {r m : FI} {n : FJ} (hM : M ≤ 24) (hN : N ≤ 16) (hF : F ≤ 16) : f_CB_hashOfBraid_f 200 h (nI M) (nI N) (nI F) t r m n = some (cx_hB h F M N t r m n) := by
  unfold f_CB_hashOfBraid_f
  have e1 := cx_lf (fun k j (s : Int64) => f_CB_hashOfBraid_f_L6 (nI F) t (fun i3 i4 => f_CB_hashOfBraid_f_L43 (nI M) r m (fun i7 i8 => f_CB_hashOfBraid_f_L101 (nI N) n (fun i11 i12 => some i11) 200 i7 0) 200 i3 0) k s (nI j)) (fun s => f_CB_hashOfBraid_f_L43 (nI M) r m (fun i7 i8 => f_CB_hashOfBraid_f_L101 (nI N) n (fun i11 i12 => some i11) 200 i7 0) 200 s 0) (fun j => cx_hs h t j) F (fun k => by
      show f_CB_hashOfBraid_f_L6 (nI F) t _ (k + 1) _ (nI F) = _
      rw [f_CB_hashOfBraid_f_L6, if_pos (nI_le (Nat.le_refl _) (by omega))]) (fun k j hj => by
      show f_CB_hashOfBraid_f_L6 (nI F) t _ (k + 1) _ (nI j) = f_CB_hashOfBraid_f_L6 (nI F) t _ k _ (nI (j + 1))
      rw [f_CB_hashOfBraid_f_L6, if_neg (nI_ge hj (by omega)), if_pos (ck_nI (by omega) (by decide)), nI_clamp (by omega), nI_1]
      rfl) 200 0 (by omega) (by omega)
  refine Eq.trans e1 ?_
  have e2 := cx_lf (fun k j (s : Int64) => f_CB_hashOfBraid_f_L43 (nI M) r m (fun i7 i8 => f_CB_hashOfBraid_f_L101 (nI N) n (fun i11 i12 => some i11) 200 i7 0) k s (nI j)) (fun s => f_CB_hashOfBraid_f_L101 (nI N) n (fun i11 i12 => some i11) 200 s 0) (fun j => cx_h2 (cx_hs h t F) (fun c => (r c).toInt64) (fun c => (m c).toInt64) j) M (fun k => by
      show f_CB_hashOfBraid_f_L43 (nI M) r m _ (k + 1) _ (nI M) = _
      rw [f_CB_hashOfBraid_f_L43, if_pos (nI_le (Nat.le_refl _) (by omega))]) (fun k j hj => by
      show f_CB_hashOfBraid_f_L43 (nI M) r m _ (k + 1) _ (nI j) = f_CB_hashOfBraid_f_L43 (nI M) r m _ k _ (nI (j + 1))
      rw [f_CB_hashOfBraid_f_L43, if_neg (nI_ge hj (by omega)), if_pos (ck_nI (by omega) (by decide)), if_pos (ck_nI (by omega) (by decide)), nI_clamp (by omega), nI_1]
      rfl) 200 0 (by omega) (by omega)
  refine Eq.trans e2 ?_
  refine cx_lf (fun k j (s : Int64) => f_CB_hashOfBraid_f_L101 (nI N) n (fun i11 i12 => some i11) k s (nI j)) (fun s => some s) (fun j => cx_hs (cx_h2 (cx_hs h t F) (fun c => (r c).toInt64) (fun c => (m c).toInt64) M) n j) N (fun k => ?_) (fun k j hj => ?_) 200 0 (by omega) (by omega)
  · show f_CB_hashOfBraid_f_L101 (nI N) n _ (k + 1) _ (nI N) = _
    rw [f_CB_hashOfBraid_f_L101, if_pos (nI_le (Nat.le_refl _) (by omega))]
  · show f_CB_hashOfBraid_f_L101 (nI N) n _ (k + 1) _ (nI j) = f_CB_hashOfBraid_f_L101 (nI N) n _ k _ (nI (j + 1))
    rw [f_CB_hashOfBraid_f_L101, if_neg (nI_ge hj (by omega)), if_pos (ck_nI (by omega) (by decide)), nI_clamp (by omega), nI_1]
    rfl
theorem cx_hb_s {M N F : Nat} {h : Int64} {t : FJ} {r m : FI} {n : FJ} (hM : M ≤ 24) (hN : N ≤ 16) (hF : F ≤ 16) : f_CB_hashOfBraid_s 200 h (nI M) (nI N) (nI F) t r m n = some (cx_hB h F M N t r m n) := by
  unfold f_CB_hashOfBraid_s
  have e1 := cx_lf (fun k j (s : Int64) => f_CB_hashOfBraid_s_L6 (nI F) t (fun i3 i4 => f_CB_hashOfBraid_s_L43 (nI M) r m (fun i7 i8 => f_CB_hashOfBraid_s_L101 (nI N) n (fun i11 i12 => some i11) 200 i7 0) 200 i3 0) k s (nI j)) (fun s => f_CB_hashOfBraid_s_L43 (nI M) r m (fun i7 i8 => f_CB_hashOfBraid_s_L101 (nI N) n (fun i11 i12 => some i11) 200 i7 0) 200 s 0) (fun j => cx_hs h t j) F (fun k => by
      show f_CB_hashOfBraid_s_L6 (nI F) t _ (k + 1) _ (nI F) = _
      rw [f_CB_hashOfBraid_s_L6, if_pos (nI_le (Nat.le_refl _) (by omega))]) (fun k j hj => by
      show f_CB_hashOfBraid_s_L6 (nI F) t _ (k + 1) _ (nI j) = f_CB_hashOfBraid_s_L6 (nI F) t _ k _ (nI (j + 1))
      rw [f_CB_hashOfBraid_s_L6, if_neg (nI_ge hj (by omega)), if_pos (ck_nI (by omega) (by decide)), nI_clamp (by omega), nI_1]
      rfl) 200 0 (by omega) (by omega)
  refine Eq.trans e1 ?_
  have e2 := cx_lf (fun k j (s : Int64) => f_CB_hashOfBraid_s_L43 (nI M) r m (fun i7 i8 => f_CB_hashOfBraid_s_L101 (nI N) n (fun i11 i12 => some i11) 200 i7 0) k s (nI j)) (fun s => f_CB_hashOfBraid_s_L101 (nI N) n (fun i11 i12 => some i11) 200 s 0) (fun j => cx_h2 (cx_hs h t F) (fun c => (r c).toInt64) (fun c => (m c).toInt64) j) M (fun k => by
      show f_CB_hashOfBraid_s_L43 (nI M) r m _ (k + 1) _ (nI M) = _
      rw [f_CB_hashOfBraid_s_L43, if_pos (nI_le (Nat.le_refl _) (by omega))]) (fun k j hj => by
      show f_CB_hashOfBraid_s_L43 (nI M) r m _ (k + 1) _ (nI j) = f_CB_hashOfBraid_s_L43 (nI M) r m _ k _ (nI (j + 1))
      rw [f_CB_hashOfBraid_s_L43, if_neg (nI_ge hj (by omega)), if_pos (ck_nI (by omega) (by decide)), if_pos (ck_nI (by omega) (by decide)), nI_clamp (by omega), nI_1]
      rfl) 200 0 (by omega) (by omega)
  refine Eq.trans e2 ?_
  refine cx_lf (fun k j (s : Int64) => f_CB_hashOfBraid_s_L101 (nI N) n (fun i11 i12 => some i11) k s (nI j)) (fun s => some s) (fun j => cx_hs (cx_h2 (cx_hs h t F) (fun c => (r c).toInt64) (fun c => (m c).toInt64) M) n j) N (fun k => ?_) (fun k j hj => ?_) 200 0 (by omega) (by omega)
  · show f_CB_hashOfBraid_s_L101 (nI N) n _ (k + 1) _ (nI N) = _
    rw [f_CB_hashOfBraid_s_L101, if_pos (nI_le (Nat.le_refl _) (by omega))]
  · show f_CB_hashOfBraid_s_L101 (nI N) n _ (k + 1) _ (nI j) = f_CB_hashOfBraid_s_L101 (nI N) n _ k _ (nI (j + 1))
    rw [f_CB_hashOfBraid_s_L101, if_neg (nI_ge hj (by omega)), if_pos (ck_nI (by omega) (by decide)), nI_clamp (by omega), nI_1]
    rfl
theorem cx_mhb {M N F b : Nat} {h : Int64} {row : FI} {num : FJ} {K : Int64 → Option (Int64 × Int64)} (hb : b ≤ 1) (hM : M ≤ 24) (hN : N ≤ 16) (hF : F ≤ 16) (r0 : row 0 = nI M) (r3 : row 3 = nI N) (r6 : row 6 = nI F) (h01 : ∀ c, c < 24 → cx_vm b row c = 0 ∨ cx_vm b row c = 1) : f_Model_digest_L49 (nI b) row num (fun i24 c25 => f_Model_digest_L78 (nI b) row (fun i38 c39 => f_Model_digest_L125 (nI b) row num (fun i47 c48 => K c48) 200 0 c39) 200 0 c25) 200 0 h = K (cx_hB h F M N (cx_vt b num) (cx_vr b row) (cx_vm b row) (cx_vn b num)) := by
  have e1 := cx_lf (fun k j (s : Int64) => f_Model_digest_L49 (nI b) row num (fun i24 c25 => f_Model_digest_L78 (nI b) row (fun i38 c39 => f_Model_digest_L125 (nI b) row num (fun i47 c48 => K c48) 200 0 c39) 200 0 c25) k (nI j) s) (fun s => f_Model_digest_L78 (nI b) row (fun i38 c39 => f_Model_digest_L125 (nI b) row num (fun i47 c48 => K c48) 200 0 c39) 200 0 s) (fun j => cx_hs h (cx_vt b num) j) F (fun k => by
      show f_Model_digest_L49 (nI b) row num _ (k + 1) (nI F) _ = _
      rw [f_Model_digest_L49, if_pos (show ck 6 1002 = true from rfl), cx_n6, r6, if_pos (nI_le (Nat.le_refl _) (by omega))]) (fun k j hj => by
      show f_Model_digest_L49 (nI b) row num _ (k + 1) (nI j) _ = f_Model_digest_L49 (nI b) row num _ k (nI (j + 1)) _
      rw [f_Model_digest_L49, if_pos (show ck 6 1002 = true from rfl), cx_n6, r6, if_neg (nI_ge hj (by omega)), cx_truthAt (by omega) (by omega), cx_ob, f_Model_note, cx_ob, nI_1]
      rfl) 200 0 (by omega) (by omega)
  refine Eq.trans e1 ?_
  have e2 := cx_lf (fun k j (s : Int64) => f_Model_digest_L78 (nI b) row (fun i38 c39 => f_Model_digest_L125 (nI b) row num (fun i47 c48 => K c48) 200 0 c39) k (nI j) s) (fun s => f_Model_digest_L125 (nI b) row num (fun i47 c48 => K c48) 200 0 s) (fun j => cx_h2 (cx_hs h (cx_vt b num) F) (fun c => (cx_vr b row c).toInt64) (fun c => (cx_vm b row c).toInt64) j) M (fun k => by
      show f_Model_digest_L78 (nI b) row _ (k + 1) (nI M) _ = _
      rw [f_Model_digest_L78, if_pos (show ck 0 1002 = true from rfl), cx_n0, r0, if_pos (nI_le (Nat.le_refl _) (by omega))]) (fun k j hj => by
      show f_Model_digest_L78 (nI b) row _ (k + 1) (nI j) _ = f_Model_digest_L78 (nI b) row _ k (nI (j + 1)) _
      rw [f_Model_digest_L78, if_pos (show ck 0 1002 = true from rfl), cx_n0, r0, if_neg (nI_ge hj (by omega)), cx_restAt (by omega) (by omega), cx_ob, f_Model_note, cx_ob, cx_marked (by omega) (by omega) (h01 j (by omega)), cx_ob, f_Model_note, f_Model_note, cx_ob, cx_ob, nI_1, cx_h2]
      rcases h01 j (by omega) with z | z
      · rw [z, if_pos rfl]; rfl
      · rw [z, if_neg cx_i1]; rfl) 200 0 (by omega) (by omega)
  refine Eq.trans e2 ?_
  refine cx_lf (fun k j (s : Int64) => f_Model_digest_L125 (nI b) row num (fun i47 c48 => K c48) k (nI j) s) (fun s => K s) (fun j => cx_hs (cx_h2 (cx_hs h (cx_vt b num) F) (fun c => (cx_vr b row c).toInt64) (fun c => (cx_vm b row c).toInt64) M) (cx_vn b num) j) N (fun k => ?_) (fun k j hj => ?_) 200 0 (by omega) (by omega)
  · show f_Model_digest_L125 (nI b) row num _ (k + 1) (nI N) _ = _
    rw [f_Model_digest_L125, if_pos (show ck 3 1002 = true from rfl), cx_n3, r3, if_pos (nI_le (Nat.le_refl _) (by omega))]
  · show f_Model_digest_L125 (nI b) row num _ (k + 1) (nI j) _ = f_Model_digest_L125 (nI b) row num _ k (nI (j + 1)) _
    rw [f_Model_digest_L125, if_pos (show ck 3 1002 = true from rfl), cx_n3, r3, if_neg (nI_ge hj (by omega)), cx_aboveAt (by omega) (by omega), cx_ob, f_Model_note, cx_ob, nI_1]
    rfl
theorem cx_hB_eq {h h' : Int64} {F M N : Nat} {t t' : FJ} {r m r' m' : FI} {n n' : FJ} (hM : M ≤ 24) (hN : N ≤ 16) (hF : F ≤ 16) (e0 : h = h') (e1 : ∀ c, c < 24 → r c = r' c ∧ m c = m' c) (e2 : ∀ i, i < 16 → t i = t' i ∧ n i = n' i) : cx_hB h F M N t r m n = cx_hB h' F M N t' r' m' n' :=
  cx_hs_eq (cx_h2_eq (cx_hs_eq e0 fun i hi => (e2 i (by omega)).1) fun i hi => ⟨congrArg Int32.toInt64 (e1 i (by omega)).1, congrArg Int32.toInt64 (e1 i (by omega)).2⟩) fun i hi => (e2 i (by omega)).2
theorem p_digest {hh : Int64} {M D K N Q R F : Nat} {ks : FI} {t1 : FJ} {r1 m1 : FI} {n1 : FJ} {t2 : FJ} {r2 m2 : FI} {n2 : FJ} {row : FI} {num : FJ} (h0 : RS 0 (nI M) (nI D) (nI K) (nI N) (nI Q) (nI R) (nI F) ks t1 r1 m1 n1 t2 r2 m2 n2 row num) (hn : SOKn M D K N Q R F ks t1 r1 m1 n1 t2 r2 m2 n2) : ∃ (out1 : Int64) (out2 : Int64 × Int64), f_CB_digest 200 (nI M) (nI D) (nI K) (nI N) (nI Q) (nI R) (nI F) ks t1 r1 m1 n1 t2 r2 m2 n2 = some out1 ∧ f_Model_digest 200 row num hh = some out2 ∧ out1 = out2.1 := by
  obtain ⟨⟨e0, e1, e2, e3, e4, e5, e6⟩, dk, d1, d2, d3, d4⟩ := RS0_out h0
  obtain ⟨s1, s2, s3, s4, s5, s6, s7, s8, s9, s10, s11, s12, s13⟩ := hn
  have o1 := cx_SEM01 s12
  have o2 := cx_SEM01 s13
  refine ⟨cx_hB (cx_hB (cx_hs 17 (fun k => (row k).toInt64) (7 + F)) F M N t1 r1 m1 n1) F M N t2 r2 m2 n2, (cx_hB (cx_hB (cx_hs 17 (fun k => (row k).toInt64) (7 + F)) F M N (cx_vt 0 num) (cx_vr 0 row) (cx_vm 0 row) (cx_vn 0 num)) F M N (cx_vt 1 num) (cx_vr 1 row) (cx_vm 1 row) (cx_vn 1 num), cx_hB (cx_hB (cx_hs 17 (fun k => (row k).toInt64) (7 + F)) F M N (cx_vt 0 num) (cx_vr 0 row) (cx_vm 0 row) (cx_vn 0 num)) F M N (cx_vt 1 num) (cx_vr 1 row) (cx_vm 1 row) (cx_vn 1 num)), ?_, ?_, cx_hB_eq s1.2 s4.2 s7 (cx_hB_eq s1.2 s4.2 s7 rfl (fun c hc => ⟨(d1 c hc).1.symm, (d1 c hc).2.symm⟩) (fun i hi => ⟨(d3 i hi).1.symm, (d3 i hi).2.symm⟩)) (fun c hc => ⟨(d2 c hc).1.symm, (d2 c hc).2.symm⟩) (fun i hi => ⟨(d4 i hi).1.symm, (d4 i hi).2.symm⟩)⟩
  · unfold f_CB_digest
    have e1 := cx_lf (fun k j (s : Int64) => f_CB_digest_L6 (nI M) (nI D) (nI K) (nI N) (nI Q) (nI R) (nI F) (fun i5 i6 => f_CB_digest_L36 (nI F) ks (fun i9 i10 => f_CB_digest_L72 200 (nI M) (nI N) (nI F) t1 r1 m1 n1 t2 r2 m2 n2 (fun i17 i18 => some i17) 200 i9 0) 200 i5 0) k s (nI j)) (fun s => f_CB_digest_L36 (nI F) ks (fun i9 i10 => f_CB_digest_L72 200 (nI M) (nI N) (nI F) t1 r1 m1 n1 t2 r2 m2 n2 (fun i17 i18 => some i17) 200 i9 0) 200 s 0) (fun j => cx_hs 17 (fun k => (row k).toInt64) j) 7 (fun k => by
        show f_CB_digest_L6 (nI M) (nI D) (nI K) (nI N) (nI Q) (nI R) (nI F) _ (k + 1) _ (nI 7) = _
        rw [f_CB_digest_L6, if_pos (show (7 : Int32) ≤ nI 7 by decide)]) (fun k j hj => by
        show f_CB_digest_L6 (nI M) (nI D) (nI K) (nI N) (nI Q) (nI R) (nI F) _ (k + 1) _ (nI j) = f_CB_digest_L6 (nI M) (nI D) (nI K) (nI N) (nI Q) (nI R) (nI F) _ k _ (nI (j + 1))
        have ef : f_State_formNumber (nI j) (nI M) (nI D) (nI K) (nI N) (nI Q) (nI R) (nI F) = some (row j) := by
          rcases (show j = 0 ∨ j = 1 ∨ j = 2 ∨ j = 3 ∨ j = 4 ∨ j = 5 ∨ j = 6 by omega) with rfl | rfl | rfl | rfl | rfl | rfl | rfl
          · rw [e0]; rfl
          · rw [e1]; rfl
          · rw [e2]; rfl
          · rw [e3]; rfl
          · rw [e4]; rfl
          · rw [e5]; rfl
          · rw [e6]; rfl
        rw [f_CB_digest_L6, if_neg (cx_G7 hj), ef, cx_ob, nI_1]
        rfl) 200 0 (by omega) (by omega)
    refine Eq.trans e1 ?_
    have e2 := cx_lf (fun k j (s : Int64) => f_CB_digest_L36 (nI F) ks (fun i9 i10 => f_CB_digest_L72 200 (nI M) (nI N) (nI F) t1 r1 m1 n1 t2 r2 m2 n2 (fun i17 i18 => some i17) 200 i9 0) k s (nI j)) (fun s => f_CB_digest_L72 200 (nI M) (nI N) (nI F) t1 r1 m1 n1 t2 r2 m2 n2 (fun i17 i18 => some i17) 200 s 0) (fun j => cx_hs 17 (fun k => (row k).toInt64) (7 + j)) F (fun k => by
        show f_CB_digest_L36 (nI F) ks _ (k + 1) _ (nI F) = _
        rw [f_CB_digest_L36, if_pos (nI_le (Nat.le_refl _) (by omega))]) (fun k j hj => by
        show f_CB_digest_L36 (nI F) ks _ (k + 1) _ (nI j) = f_CB_digest_L36 (nI F) ks _ k (cx_hs 17 (fun k => (row k).toInt64) (7 + j + 1)) (nI (j + 1))
        rw [f_CB_digest_L36, if_neg (nI_ge hj (by omega)), if_pos (ck_nI (by omega) (by decide)), nI_clamp (by omega), nI_1, cx_hs, dk j (by omega)]) 200 0 (by omega) (by omega)
    refine Eq.trans e2 ?_
    rw [f_CB_digest_L72, if_neg (by decide), if_pos rfl, cx_hb_f s1.2 s4.2 s7, cx_ob, show (0 : Int32) + 1 = 1 from rfl, f_CB_digest_L72, if_neg (by decide), if_neg cx_i1, cx_hb_s s1.2 s4.2 s7, cx_ob, show (1 : Int32) + 1 = 2 from rfl, f_CB_digest_L72, if_pos (by decide)]
  · unfold f_Model_digest
    have e7 : ∀ K, f_Model_digest_L9 row K 200 0 17 = K (nI (7 + F)) (cx_hs 17 (fun k => (row k).toInt64) (7 + F)) := fun K =>
      cx_lf (fun k j (s : Int64) => f_Model_digest_L9 row K k (nI j) s) (fun s => K (nI (7 + F)) s) (fun j => cx_hs 17 (fun k => (row k).toInt64) j) (7 + F) (fun k => by
        show f_Model_digest_L9 row K (k + 1) (nI (7 + F)) _ = _
        rw [f_Model_digest_L9, if_pos (show ck 6 1002 = true from rfl), cx_n6, e6, cx_p7, if_pos (nI_le (Nat.le_refl _) (by omega))]) (fun k j hj => by
        show f_Model_digest_L9 row K (k + 1) (nI j) _ = f_Model_digest_L9 row K k (nI (j + 1)) _
        rw [f_Model_digest_L9, if_pos (show ck 6 1002 = true from rfl), cx_n6, e6, cx_p7, if_neg (nI_ge hj (by omega)), if_pos (ck_nI (by omega) (by decide)), nI_clamp (by omega), f_Model_note, cx_ob, nI_1]
        rfl) 200 0 (by omega) (by omega)
    rw [e7, f_Model_digest_L42, if_neg (by decide)]
    have q1 := cx_mhb (b := 0) (h := cx_hs 17 (fun k => (row k).toInt64) (7 + F)) (row := row) (num := num) (K := fun c48 => f_Model_digest_L42 200 row num (fun i49 c50 => some (c50, c50)) 199 (0 + 1) c48) (by omega) s1.2 s4.2 s7 e0 e3 e6 (fun c hc => by rw [(d1 c hc).2]; exact o1 c hc)
    refine Eq.trans q1 ?_
    show f_Model_digest_L42 200 row num (fun i49 c50 => some (c50, c50)) (198 + 1) 1 _ = _
    rw [f_Model_digest_L42, if_neg (by decide)]
    have q2 := cx_mhb (b := 1) (h := cx_hB (cx_hs 17 (fun k => (row k).toInt64) (7 + F)) F M N (cx_vt 0 num) (cx_vr 0 row) (cx_vm 0 row) (cx_vn 0 num)) (row := row) (num := num) (K := fun c48 => f_Model_digest_L42 200 row num (fun i49 c50 => some (c50, c50)) 198 (1 + 1) c48) (by omega) s1.2 s4.2 s7 e0 e3 e6 (fun c hc => by rw [(d2 c hc).2]; exact o2 c hc)
    refine Eq.trans q2 ?_
    show f_Model_digest_L42 200 row num (fun i49 c50 => some (c50, c50)) (197 + 1) 2 _ = _
    rw [f_Model_digest_L42, if_pos (by decide)]
