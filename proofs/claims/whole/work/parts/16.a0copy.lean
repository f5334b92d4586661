theorem cx_copies {a b : Nat} (ha : a ≤ 5) (hb : b ≤ 5) (hab : a ≠ b) (row : FI) (num : FJ) : ∃ (row' : FI) (num' : FJ), f_Model_copies 200 (nI a) (nI b) row num = some (row', num') ∧ (∀ k, k < 167 → row' (167 * b + k) = row (167 * a + k)) ∧ (∀ x, ¬ (167 * b ≤ x ∧ x < 167 * b + 167) → row' x = row x) ∧ (∀ k, k < 96 → num' (96 * b + k) = num (96 * a + k)) ∧ (∀ x, ¬ (96 * b ≤ x ∧ x < 96 * b + 96) → num' x = num x) := by
  obtain ⟨row', h1, e1⟩ := cx_lp (fun n j s => f_Model_copies_L2 (nI a) (nI b) (fun i8 c9 => f_Model_copies_L41 (nI a) (nI b) (fun i17 c18 => some (c9, c18)) 200 0 num) n (nI j) s) (fun s => f_Model_copies_L41 (nI a) (nI b) (fun i17 c18 => some (s, c18)) 200 0 num) (fun j s => (∀ k, k < j → s (167 * b + k) = row (167 * a + k)) ∧ (∀ x, ¬ (167 * b ≤ x ∧ x < 167 * b + j) → s x = row x)) 167
    (fun n s _ => by
      show f_Model_copies_L2 (nI a) (nI b) _ (n + 1) (nI 167) s = _
      rw [f_Model_copies_L2]
      simp (disch := omega) only [cx_le167, if_pos])
    (fun n j s hj hP => by
      refine ⟨upd s (167 * b + j) (s (167 * a + j)), ⟨fun k hk => ?_, fun x hx => ?_⟩, ?_⟩
      · by_cases q : k = j
        · subst q; rw [pk_us]; exact hP.2 _ (by omega)
        · rw [pk_un (by omega)]; exact hP.1 k (by omega)
      · rw [pk_un (by omega)]; exact hP.2 x (by omega)
      · show f_Model_copies_L2 (nI a) (nI b) _ (n + 1) (nI j) s = _
        rw [f_Model_copies_L2]
        simp (disch := omega) only [cx_le167, if_neg, cx_m167, nI_add, cx_ck, if_true, nI_clamp, nI_1]) 200 0 row (by omega) (by omega) ⟨fun k hk => absurd hk (Nat.not_lt_zero k), fun _ _ => rfl⟩
  obtain ⟨num', h2, e2⟩ := cx_lp (fun n j s => f_Model_copies_L41 (nI a) (nI b) (fun i17 c18 => some (row', c18)) n (nI j) s) (fun s => some (row', s)) (fun j s => (∀ k, k < j → s (96 * b + k) = num (96 * a + k)) ∧ (∀ x, ¬ (96 * b ≤ x ∧ x < 96 * b + j) → s x = num x)) 96
    (fun n s _ => by
      show f_Model_copies_L41 (nI a) (nI b) _ (n + 1) (nI 96) s = _
      rw [f_Model_copies_L41]
      simp (disch := omega) only [cx_le96, if_pos])
    (fun n j s hj hP => by
      refine ⟨vp_updL s (96 * b + j) (s (96 * a + j)), ⟨fun k hk => ?_, fun x hx => ?_⟩, ?_⟩
      · by_cases q : k = j
        · subst q; rw [pk_uLs]; exact hP.2 _ (by omega)
        · rw [pk_uLn (by omega)]; exact hP.1 k (by omega)
      · rw [pk_uLn (by omega)]; exact hP.2 x (by omega)
      · show f_Model_copies_L41 (nI a) (nI b) _ (n + 1) (nI j) s = _
        rw [f_Model_copies_L41]
        simp (disch := omega) only [cx_le96, if_neg, cx_m96, nI_add, cx_ck, if_true, nI_clamp, nI_1]) 200 0 num (by omega) (by omega) ⟨fun k hk => absurd hk (Nat.not_lt_zero k), fun _ _ => rfl⟩
  exact ⟨row', num', e1.trans e2, h1.1, h1.2, h2.1, h2.2⟩
/-- one state in a slot, in another slot -/
theorem RS_move {i j : Nat} {fc fb ff fu fv fr fl : Int32} {ks : FI} {t1 : FJ} {r1 m1 : FI} {n1 : FJ} {t2 : FJ} {r2 m2 : FI} {n2 : FJ} {row row' : FI} {num num' : FJ} (h : RS i fc fb ff fu fv fr fl ks t1 r1 m1 n1 t2 r2 m2 n2 row num) (e1 : ∀ k, k < 167 → row' (167 * j + k) = row (167 * i + k)) (e2 : ∀ k, k < 96 → num' (96 * j + k) = num (96 * i + k)) : RS j fc fb ff fu fv fr fl ks t1 r1 m1 n1 t2 r2 m2 n2 row' num' := by
  obtain ⟨⟨a0, a1, a2, a3, a4, a5, a6⟩, b, c, d⟩ := h
  have g : ∀ k, k < 167 → ∀ v, row (167 * i + k) = v → row' (167 * j + k) = v := fun k hk v e => (e1 k hk).trans e
  have g2 : ∀ k, k < 96 → ∀ v, num (96 * i + k) = v → num' (96 * j + k) = v := fun k hk v e => (e2 k hk).trans e
  refine ⟨⟨g 0 (by omega) _ a0, g 1 (by omega) _ a1, g 2 (by omega) _ a2, g 3 (by omega) _ a3, g 4 (by omega) _ a4, g 5 (by omega) _ a5, g 6 (by omega) _ a6⟩, fun f hf => ?_, fun x hx => ?_, fun f hf => ?_⟩
  · rw [Nat.add_assoc]; exact g (7 + f) (by omega) _ (by rw [← Nat.add_assoc]; exact b f hf)
  · obtain ⟨c1, c2, c3, c4⟩ := c x hx
    rw [Nat.add_assoc] at c1 c2 c3 c4 ⊢
    rw [Nat.add_assoc (167 * j) 47, Nat.add_assoc (167 * j) 71, Nat.add_assoc (167 * j) 95]
    exact ⟨g _ (by omega) _ c1, g _ (by omega) _ c2, g _ (by omega) _ c3, g _ (by omega) _ c4⟩
  · obtain ⟨c1, c2, c3, c4⟩ := d f hf
    rw [Nat.add_assoc] at c2 c3 c4
    rw [Nat.add_assoc (96 * j) 16, Nat.add_assoc (96 * j) 32, Nat.add_assoc (96 * j) 48]
    exact ⟨g2 _ (by omega) _ c1, g2 _ (by omega) _ c2, g2 _ (by omega) _ c3, g2 _ (by omega) _ c4⟩
theorem HR_frame {h : HistoryS} {saved : Int32} {row row' : FI} {num num' : FJ} (H : HR h saved row num) (e1 : ∀ x, 167 ≤ x → row' x = row x) (e2 : ∀ x, 96 ≤ x → num' x = num x) : HR h saved row' num' := by
  obtain ⟨n, hn, a, b, c⟩ := H
  exact ⟨n, hn, a, b, fun j hj => ⟨RS_move (c j hj).1 (fun k hk => e1 _ (by omega)) (fun k hk => e2 _ (by omega)), (c j hj).2⟩⟩
/-- the model's saving: the slots go down by one where all five are full, then the present one is copied -/
theorem cx_shift (row : FI) (num : FJ) : ∃ (row' : FI) (num' : FJ), f_Model_saves_L2 200 5 (fun i7 c8 c9 => f_Model_saves_J29 200 c8 c9 5) 200 1 row num = f_Model_saves_J29 200 row' num' 5 ∧ (∀ j, 1 ≤ j → j < 5 → (∀ k, k < 167 → row' (167 * j + k) = row (167 * (j + 1) + k)) ∧ (∀ k, k < 96 → num' (96 * j + k) = num (96 * (j + 1) + k))) ∧ (∀ x, x < 167 → row' x = row x) ∧ (∀ x, x < 96 → num' x = num x) := by
  obtain ⟨s, h, e⟩ := cx_lp (fun n j (s : FI × FJ) => f_Model_saves_L2 200 5 (fun i7 c8 c9 => f_Model_saves_J29 200 c8 c9 5) n (nI (1 + j)) s.1 s.2) (fun s => f_Model_saves_J29 200 s.1 s.2 5)
    (fun j s => (∀ i, 1 ≤ i → i < 1 + j → (∀ k, k < 167 → s.1 (167 * i + k) = row (167 * (i + 1) + k)) ∧ (∀ k, k < 96 → s.2 (96 * i + k) = num (96 * (i + 1) + k))) ∧ (∀ x, (x < 167 ∨ 167 * (1 + j) ≤ x) → s.1 x = row x) ∧ (∀ x, (x < 96 ∨ 96 * (1 + j) ≤ x) → s.2 x = num x)) 4
    (fun n s _ => by
      show f_Model_saves_L2 200 5 _ (n + 1) (nI (1 + 4)) s.1 s.2 = _
      rw [f_Model_saves_L2]
      simp (disch := omega) only [cx_le5, if_pos])
    (fun n j s hj hP => by
      obtain ⟨r, u, e, c1, c2, c3, c4⟩ := cx_copies (a := 1 + j + 1) (b := 1 + j) (by omega) (by omega) (by omega) s.1 s.2
      refine ⟨(r, u), ⟨fun i h1 h2 => ?_, fun x hx => ?_, fun x hx => ?_⟩, ?_⟩
      · by_cases q : i = 1 + j
        · subst q
          refine ⟨fun k hk => ?_, fun k hk => ?_⟩
          · show r _ = _
            rw [c1 k hk]; exact hP.2.1 _ (by omega)
          · show u _ = _
            rw [c3 k hk]; exact hP.2.2 _ (by omega)
        · refine ⟨fun k hk => ?_, fun k hk => ?_⟩
          · show r _ = _
            rw [c2 _ (by omega)]; exact (hP.1 i h1 (by omega)).1 k hk
          · show u _ = _
            rw [c4 _ (by omega)]; exact (hP.1 i h1 (by omega)).2 k hk
      · show r x = _
        rw [c2 x (by omega)]; exact hP.2.1 x (by omega)
      · show u x = _
        rw [c4 x (by omega)]; exact hP.2.2 x (by omega)
      · show f_Model_saves_L2 200 5 _ (n + 1) (nI (1 + j)) s.1 s.2 = _
        rw [f_Model_saves_L2]
        simp (disch := omega) only [cx_le5, if_neg, nI_1, e, cx_ob, if_true]
        rfl) 200 0 (row, num) (by omega) (by omega) ⟨fun i h1 h2 => absurd h2 (by omega), fun _ _ => rfl, fun _ _ => rfl⟩
  exact ⟨s.1, s.2, e, fun j h1 h2 => h.1 j h1 (by omega), fun x hx => h.2.1 x (Or.inl hx), fun x hx => h.2.2 x (Or.inl hx)⟩
theorem hslot_lt {h : HistoryS} : hslot h 0 = h.1.2 ∧ hslot h 1 = h.2.1.2 ∧ hslot h 2 = h.2.2.1.2 ∧ hslot h 3 = h.2.2.2.1.2 ∧ hslot h 4 = h.2.2.2.2.1.2 := ⟨rfl, rfl, rfl, rfl, rfl⟩
/-- what is put at the history's end -/
theorem cx_hput {h : HistoryS} {q : StateS} {n : Nat} (hn : n < 5) (e : h.2.2.2.2.2 = nI n) : ∃ h' : HistoryS, hput h q = some h' ∧ h'.2.2.2.2.2 = nI (n + 1) ∧ hslot h' n = q ∧ ∀ j, j < n → hslot h' j = hslot h j := by
  unfold hput
  rw [e]
  rcases (show n = 0 ∨ n = 1 ∨ n = 2 ∨ n = 3 ∨ n = 4 by omega) with rfl | rfl | rfl | rfl | rfl
  · exact ⟨_, rfl, rfl, rfl, fun j hj => absurd hj (Nat.not_lt_zero j)⟩
  · refine ⟨_, rfl, rfl, rfl, fun j hj => ?_⟩
    rcases (show j = 0 by omega) with rfl
    rfl
  · refine ⟨_, rfl, rfl, rfl, fun j hj => ?_⟩
    rcases (show j = 0 ∨ j = 1 by omega) with rfl | rfl <;> rfl
  · refine ⟨_, rfl, rfl, rfl, fun j hj => ?_⟩
    rcases (show j = 0 ∨ j = 1 ∨ j = 2 by omega) with rfl | rfl | rfl <;> rfl
  · refine ⟨_, rfl, rfl, rfl, fun j hj => ?_⟩
    rcases (show j = 0 ∨ j = 1 ∨ j = 2 ∨ j = 3 by omega) with rfl | rfl | rfl | rfl <;> rfl
/-- the whole state goes into the history, on both sides -/
theorem p_push {s : StateS} {h : HistoryS} {saved : Int32} {row : FI} {num : FJ} (h0 : RSs 0 s row num) (hs : SOKs s) (H : HR h saved row num) : ∃ (h' : HistoryS) (row' : FI) (num' : FJ) (sv : Int32), f_History_push h s = some h' ∧ f_Model_saves 200 row num saved = some (row', num', sv) ∧ HR h' sv row' num' ∧ (∀ x, x < 167 → row' x = row x) ∧ (∀ x, x < 96 → num' x = num x) ∧ RSs 0 s row' num' := by
  obtain ⟨n, hn, e1, e2, hc⟩ := H
  subst e2
  unfold f_Model_saves f_History_push
  by_cases q : n = 5
  · subst q
    rw [e1, if_neg (show ¬ nI 5 < (5 : Int32) by decide)]
    obtain ⟨h', p1, p2, p3, p4⟩ := cx_hput (h := f_History_dropOldest h) (q := s) (n := 4) (by omega) rfl
    obtain ⟨ra, na, s1, s2, s3, s4⟩ := cx_shift row num
    obtain ⟨rb, nb, t1, t2, t3, t4, t5⟩ := cx_copies (a := 0) (b := 5) (by omega) (by omega) (by omega) ra na
    have k0 : ∀ x, x < 167 → rb x = row x := fun x hx => (t3 x (by omega)).trans (s3 x hx)
    have k1 : ∀ x, x < 96 → nb x = num x := fun x hx => (t5 x (by omega)).trans (s4 x hx)
    refine ⟨h', rb, nb, nI 5, p1, ?_, ⟨5, by omega, p2, rfl, fun j hj => ?_⟩, k0, k1, RS_move h0 (fun k hk => k0 _ (by omega)) (fun k hk => k1 _ (by omega))⟩
    · refine s1.trans ?_
      have t1 : f_Model_copies 200 0 (nI 5) ra na = some (rb, nb) := t1
      rw [f_Model_saves_J29, if_pos rfl, f_Model_saves_J47, show (5 : Int32) - 1 + 1 = nI 5 from by decide, t1, cx_ob]
    · by_cases q : j = 4
      · subst q
        rw [p3]
        exact ⟨RS_move h0 (fun k hk => by rw [t2 k hk]; exact s3 _ (by omega)) (fun k hk => by rw [t4 k hk]; exact s4 _ (by omega)), hs⟩
      · rw [p4 j (by omega), show hslot (f_History_dropOldest h) j = hslot h (j + 1) from by
          rcases (show j = 0 ∨ j = 1 ∨ j = 2 ∨ j = 3 by omega) with rfl | rfl | rfl | rfl <;> rfl]
        obtain ⟨c1, c2⟩ := hc (j + 1) (by omega)
        exact ⟨RS_move c1 (fun k hk => by rw [t3 _ (by omega)]; exact (s2 (j + 1) (by omega) (by omega)).1 k hk) (fun k hk => by rw [t5 _ (by omega)]; exact (s2 (j + 1) (by omega) (by omega)).2 k hk), c2⟩
  · rw [e1, if_pos (show nI n < (5 : Int32) from nI_lt (b := 5) (by omega) (by omega))]
    obtain ⟨h', p1, p2, p3, p4⟩ := cx_hput (h := h) (q := s) (n := n) (by omega) e1
    have ne : ¬ nI n = (5 : Int32) := fun z => q ((nI_eq (b := 5) (by omega) (by omega)).mp z)
    obtain ⟨rb, nb, t1, t2, t3, t4, t5⟩ := cx_copies (a := 0) (b := n + 1) (by omega) (by omega) (by omega) row num
    have k0 : ∀ x, x < 167 → rb x = row x := fun x hx => t3 x (by omega)
    have k1 : ∀ x, x < 96 → nb x = num x := fun x hx => t5 x (by omega)
    refine ⟨h', rb, nb, nI (n + 1), p1, ?_, ⟨n + 1, by omega, p2, rfl, fun j hj => ?_⟩, k0, k1, RS_move h0 (fun k hk => k0 _ (by omega)) (fun k hk => k1 _ (by omega))⟩
    · rw [f_Model_saves_L2, if_neg (show ¬ (5 : Int32) ≤ 1 by decide), if_neg ne, f_Model_saves_J29, if_neg ne, f_Model_saves_J47, Int32.sub_zero, nI_1]
      show (f_Model_copies 200 (nI 0) (nI (n + 1)) row num).bind _ = _
      rw [t1]
      rfl
    · by_cases q : j = n
      · subst q
        rw [p3]
        exact ⟨RS_move h0 (fun k hk => by rw [t2 k hk]) (fun k hk => by rw [t4 k hk]), hs⟩
      · rw [p4 j (by omega)]
        obtain ⟨c1, c2⟩ := hc j (by omega)
        exact ⟨RS_move c1 (fun k hk => t3 _ (by omega)) (fun k hk => t5 _ (by omega)), c2⟩
/-- the latest state comes back, on both sides -/
theorem p_undo {s : StateS} {h : HistoryS} {saved : Int32} {row : FI} {num : FJ} (h0 : RSs 0 s row num) (hs : SOKs s) (H : HR h saved row num) : ∃ (out1 : Int32 × StateS × HistoryS) (out2 : Int32 × FI × FJ × Int32), f_CB_undo s h = some out1 ∧ f_Model_undo 200 row num saved = some out2 ∧ out1.1 = out2.1 ∧ (RSs 0 out1.2.1 out2.2.1 out2.2.2.1 ∧ SOKs out1.2.1) ∧ HR out1.2.2 out2.2.2.2 out2.2.1 out2.2.2.1 := by
  have H0 := H
  obtain ⟨n, hn, e1, e2, hc⟩ := H
  subst e2
  unfold f_CB_undo f_Model_undo f_History_pop
  rw [e1]
  by_cases q : n = 0
  · subst q
    exact ⟨(-4, s, h), (-4, row, num, nI 0), rfl, rfl, rfl, ⟨h0, hs⟩, H0⟩
  · obtain ⟨m, rfl⟩ : ∃ m, n = m + 1 := ⟨n - 1, by omega⟩
    have ne : ¬ nI (m + 1) = (0 : Int32) := fun z => q ((nI_eq (b := 0) (by omega) (by omega)).mp z)
    rw [if_pos (show (1 : Int32) ≤ nI (m + 1) from nI_le (a := 1) (by omega) (by omega)), nI_pred, if_neg ne]
    obtain ⟨rb, nb, t1, t2, t3, t4, t5⟩ := cx_copies (a := m + 1) (b := 0) (by omega) (by omega) (by omega) row num
    obtain ⟨h', g1, g2⟩ : ∃ h' : HistoryS, hget h (nI m) = some (nI m, h', hslot h m) ∧ h'.2.2.2.2.2 = nI m ∧ ∀ j, hslot h' j = hslot h j := by
      unfold hget
      rcases (show m = 0 ∨ m = 1 ∨ m = 2 ∨ m = 3 ∨ m = 4 by omega) with rfl | rfl | rfl | rfl | rfl <;> exact ⟨_, rfl, rfl, fun _ => rfl⟩
    rw [g1]
    refine ⟨(nI m, hslot h m, h'), (nI m, rb, nb, nI m), rfl, ?_, rfl, ⟨RS_move (hc m (by omega)).1 t2 t4, (hc m (by omega)).2⟩, m, by omega, g2.1, rfl, fun j hj => ?_⟩
    · show (f_Model_copies 200 (nI (m + 1)) (nI 0) row num).bind _ = _
      rw [t1]
      rfl
    · show RSs (j + 1) (hslot h' j) rb nb ∧ SOKs (hslot h' j)
      rw [g2.2 j]
      obtain ⟨c1, c2⟩ := hc j (by omega)
      exact ⟨RS_move c1 (fun k hk => t3 _ (by omega)) (fun k hk => t5 _ (by omega)), c2⟩
