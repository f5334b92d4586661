theorem findC_no {x : Int32} {ks : FI} {m : Nat} {K : Int32 → Option Int32} (hm : m ≤ 16) (h : ∀ j, j < m → ¬ ks j = x) : ∀ (n i : Nat), i ≤ m → m < i + n → f_State_find_L2 x (nI m) ks K n (nI i) = K (nI m) := by
  intro n
  induction n with
  | zero => intro i h1 h2; omega
  | succ n ih =>
    intro i h1 h2
    rw [f_State_find_L2]
    by_cases q : i = m
    · subst q
      rw [if_pos (nI_le (Nat.le_refl _) (by omega))]
    · rw [if_neg (nI_ge (by omega) (by omega)), if_pos (ck_nI (by omega) (by decide)), nI_clamp (by omega), if_neg (h i (by omega)), nI_1]
      exact ih (i + 1) (by omega) (by omega)
theorem findC_at {x : Int32} {ks : FI} {m j : Nat} {K : Int32 → Option Int32} (hm : m ≤ 16) (hj : j < m) (hx : ks j = x) (h : ∀ i, i < j → ¬ ks i = x) : ∀ (n i : Nat), i ≤ j → m < i + n → f_State_find_L2 x (nI m) ks K n (nI i) = some (nI j) := by
  intro n
  induction n with
  | zero => intro i h1 h2; omega
  | succ n ih =>
    intro i h1 h2
    rw [f_State_find_L2, if_neg (nI_ge (by omega) (by omega)), if_pos (ck_nI (by omega) (by decide)), nI_clamp (by omega)]
    by_cases q : i = j
    · subst q
      rw [if_pos hx]
    · rw [if_neg (h i (by omega)), nI_1]
      exact ih (i + 1) (by omega) (by omega)
theorem findM_no {x : Int32} {row : FI} {m : Nat} {K : Int32 → Int32 → Option Int32} (hm : m ≤ 16) (hr : row 6 = nI m) (h : ∀ j, j < m → ¬ row (7 + j) = x) : ∀ (n i : Nat) (at_ : Int32), i ≤ m → m < i + n → f_Model_find_L4 x row K n at_ (nI i) = K at_ (nI m) := by
  intro n
  induction n with
  | zero => intro i at_ h1 h2; omega
  | succ n ih =>
    intro i at_ h1 h2
    rw [f_Model_find_L4, if_pos (show ck 6 1002 = true from rfl), show ((6 : Int32).toNatClampNeg) = 6 from rfl, hr]
    by_cases q : i = m
    · subst q
      rw [if_pos (nI_le (Nat.le_refl _) (by omega))]
    · rw [if_neg (nI_ge (by omega) (by omega)), show (7 + nI i : Int32) = nI (7 + i) from nI_add 7 i, if_pos (ck_nI (by omega) (by decide)), nI_clamp (by omega), if_neg (h i (by omega)), nI_1]
      exact ih (i + 1) at_ (by omega) (by omega)
theorem findM_at {x : Int32} {row : FI} {m j : Nat} {K : Int32 → Int32 → Option Int32} (hm : m ≤ 16) (hr : row 6 = nI m) (hj : j < m) (hx : row (7 + j) = x) (h : ∀ i, i < m → i ≠ j → ¬ row (7 + i) = x) : ∀ (n i : Nat) (at_ : Int32), i ≤ m → m < i + n → f_Model_find_L4 x row K n at_ (nI i) = K (if i ≤ j then nI j else at_) (nI m) := by
  intro n
  induction n with
  | zero => intro i at_ h1 h2; omega
  | succ n ih =>
    intro i at_ h1 h2
    rw [f_Model_find_L4, if_pos (show ck 6 1002 = true from rfl), show ((6 : Int32).toNatClampNeg) = 6 from rfl, hr]
    by_cases q : i = m
    · subst q
      rw [if_pos (nI_le (Nat.le_refl _) (by omega)), if_neg (by omega)]
    · rw [if_neg (nI_ge (by omega) (by omega)), show (7 + nI i : Int32) = nI (7 + i) from nI_add 7 i, if_pos (ck_nI (by omega) (by decide)), nI_clamp (by omega)]
      by_cases qj : i = j
      · subst qj
        rw [if_pos hx, nI_1, ih (i + 1) (nI i) (by omega) (by omega), if_neg (by omega), if_pos (Nat.le_refl _)]
      · rw [if_neg (h i (by omega) qj), nI_1, ih (i + 1) at_ (by omega) (by omega)]
        by_cases ql : i ≤ j
        · rw [if_pos ql, if_pos (by omega)]
        · rw [if_neg ql, if_neg (by omega)]
/-- the two searches answer alike -/
theorem p_find {x fl : Int32} {ks row : FI} (hr : row 6 = fl) (hfl : 0 ≤ fl ∧ fl ≤ 16) (h1 : ∀ f, f < 16 → row (7 + f) = ks f) (hd : ∀ f g : Nat, f < g → g < fl.toNatClampNeg → ks f ≠ ks g) : ∃ r, f_State_find 200 x fl ks = some r ∧ f_Model_find 200 x row = some r := by
  obtain ⟨m, hm, rfl⟩ := fl_nat (b := 16) (n := 16) rfl (by decide) hfl
  rw [nI_clamp (by omega)] at hd
  unfold f_State_find f_Model_find
  by_cases q : ∃ j, j < m ∧ ks j = x
  · obtain ⟨j, hj, hx⟩ := q
    refine ⟨nI j, findC_at hm hj hx (fun i hi e => hd i j hi hj (e.trans hx.symm)) 200 0 (by omega) (by omega), ?_⟩
    have := findM_at (K := fun i4 i5 => some i4) hm hr hj ((h1 j (by omega)).trans hx) (fun i hi hne e => by
      rw [h1 i (by omega)] at e
      rcases Nat.lt_or_gt_of_ne hne with hl | hl
      · exact hd i j hl hj (e.trans hx.symm)
      · exact hd j i hl hi (hx.trans e.symm)) 200 0 (-1) (by omega) (by omega)
    rw [if_pos (Nat.zero_le _)] at this
    exact this
  · refine ⟨-1, findC_no (K := fun i3 => some (-1)) hm (fun j hj e => q ⟨j, hj, e⟩) 200 0 (by omega) (by omega), findM_no (K := fun i4 i5 => some i4) hm hr (fun j hj e => q ⟨j, hj, (h1 j (by omega)).symm.trans e⟩) 200 0 (-1) (by omega) (by omega)⟩
theorem p_flowOf {x fl : Int32} {ks row : FI} (hr : row 6 = fl) (hfl : 0 ≤ fl ∧ fl ≤ 16) (h1 : ∀ f, f < 16 → row (7 + f) = ks f) (hd : ∀ f g : Nat, f < g → g < fl.toNatClampNeg → ks f ≠ ks g) : ∃ r, f_CB_flowOf 200 x fl ks = some r ∧ f_Model_flowOf 200 x row = some r := by
  unfold f_CB_flowOf f_Model_flowOf
  rw [p_from, p_in]
  by_cases hx : (0 : Int32) ≤ x ∧ x ≤ 999
  · rw [if_pos hx]
    obtain ⟨r, e1, e2⟩ := p_find (x := x) hr hfl h1 hd
    refine ⟨r, ?_, ?_⟩
    · show (f_State_find 200 x fl ks).bind _ = _
      rw [e1]; rfl
    · show (f_Model_find 200 x row).bind _ = _
      rw [e2]; rfl
  · rw [if_neg hx]
    exact ⟨-3, rfl, rfl⟩
theorem st6 : ST6 INV := by
  intro v_now_form_counters v_now_form_bits v_now_form_functions v_now_form_countersAbove v_now_form_functionsAbove v_now_form_rounds v_now_flows v_now_keys v_now_first_truths v_now_first_rests v_now_first_marks v_now_first_numbers v_now_second_truths v_now_second_rests v_now_second_marks v_now_second_numbers v_history v_text_codes v_text_length v_text_itemKeys v_text_itemCounts v_text_items v_text_newFlows v_text_at v_decoder_overflows_least v_decoder_overflows_greatest v_decoder_overflows_lowerSums v_decoder_overflows_upperSums v_decoder_overflows_lower v_decoder_overflows_upper v_decoder_overflows_places v_decoder_overflows_placeCounts v_decoder_overflows_things v_decoder_amounts_least v_decoder_amounts_greatest v_decoder_amounts_lowerSums v_decoder_amounts_upperSums v_decoder_amounts_lower v_decoder_amounts_upper v_decoder_amounts_places v_decoder_amounts_placeCounts v_decoder_amounts_things v_trial_form_counters v_trial_form_bits v_trial_form_functions v_trial_form_countersAbove v_trial_form_functionsAbove v_trial_form_rounds v_trial_flows v_trial_keys v_trial_first_truths v_trial_first_rests v_trial_first_marks v_trial_first_numbers v_trial_second_truths v_trial_second_rests v_trial_second_marks v_trial_second_numbers mv_row mv_number mv_saved mv_place mv_low mv_high mv_lowBefore mv_highBefore mv_least mv_greatest mv_things mv_changing mv_overLow mv_overHigh mv_text mv_length mv_at mv_readKey mv_readCount mv_keys mv_h hI y1
  obtain ⟨r, e1, e2⟩ := p_flowOf (x := y1) (row := mv_row) (ks := v_now_keys) hI.1.1.1.2.2.2.2.2.2 hI.1.2.2.2.2.2.2.2.1 (fun f hf => hI.1.1.2.1 f hf) hI.1.2.2.2.2.2.2.2.2.2.1
  exact ⟨200, r, r, e1, e2, rfl, hI⟩
