theorem p_rest {x y fc : Int32} {row r1 r2 : FI} (hr : row 0 = fc) (hfc : 2 ≤ fc ∧ fc ≤ 24) (h1 : ∀ c, c < 24 → row (23 + c) = r1 c) (h2 : ∀ c, c < 24 → row (71 + c) = r2 c) : ∃ r, f_CB_rest x y fc r1 r2 = some r ∧ f_Model_rest x y row = some r := by
  unfold f_CB_rest f_Model_rest
  rw [p_isBraid.1, p_isBraid.2, (p_isCounter hr).1, (p_isCounter hr).2]
  by_cases hx : (0 : Int32) ≤ x ∧ x ≤ 1
  · rw [if_pos hx]
    by_cases hy : 0 ≤ y ∧ y ≤ fc - 1
    · rw [if_pos hy]
      obtain ⟨m, hm, rfl⟩ := fl_nat (b := 24) (n := 24) rfl (by decide) ⟨Int32.le_trans (by decide) hfc.1, hfc.2⟩
      obtain ⟨c, hc0, rfl⟩ := in_nI (nI_toInt (by omega)) hy (by omega)
      have hc : ck (nI c) 24 = true := ck_nI (by omega) (by decide)
      rcases braid_cases hx with rfl | rfl
      · refine ⟨r1 c, ?_, ?_⟩
        · show (if ck (nI c) 24 = true then some (r1 (nI c).toNatClampNeg) else none) = _
          rw [if_pos hc, nI_clamp (by omega)]
        · show (f_Model_restAt 0 (nI c) row).bind _ = _
          unfold f_Model_restAt
          rw [show (23 + 48 * 0 + nI c : Int32) = nI (23 + c) from nI_add 23 c, if_pos (ck_nI (by omega) (by decide)), nI_clamp (by omega), h1 c (by omega)]
          rfl
      · refine ⟨r2 c, ?_, ?_⟩
        · show (if ck (nI c) 24 = true then some (r2 (nI c).toNatClampNeg) else none) = _
          rw [if_pos hc, nI_clamp (by omega)]
        · show (f_Model_restAt 1 (nI c) row).bind _ = _
          unfold f_Model_restAt
          rw [show (23 + 48 * 1 + nI c : Int32) = nI (71 + c) from nI_add 71 c, if_pos (ck_nI (by omega) (by decide)), nI_clamp (by omega), h2 c (by omega)]
          rfl
    · rw [if_neg hy]
      exact ⟨-2, rfl, rfl⟩
  · rw [if_neg hx]
    exact ⟨-2, rfl, rfl⟩
theorem mark01 {v : Int32} (h : v = 0 ∨ v = 1) : ((if v = 1 then some (1 : Int32) else some 0).bind (fun r3 => if r3 = 0 then some 0 else some 1) : Option Int32) = some v := by
  rcases h with rfl | rfl <;> rfl
theorem p_marked {x y fc : Int32} {row r1 r2 : FI} (hr : row 0 = fc) (hfc : 2 ≤ fc ∧ fc ≤ 24) (hm : ∀ c : Nat, c < 24 → (r1 c = 0 ∨ r1 c = 1) ∧ (r2 c = 0 ∨ r2 c = 1)) (h1 : ∀ c, c < 24 → row (47 + c) = r1 c) (h2 : ∀ c, c < 24 → row (95 + c) = r2 c) : ∃ r, f_CB_isMarked x y fc r1 r2 = some r ∧ f_Model_isMarked x y row = some r := by
  unfold f_CB_isMarked f_Model_isMarked
  rw [p_isBraid.1, p_isBraid.2, (p_isCounter hr).1, (p_isCounter hr).2]
  by_cases hx : (0 : Int32) ≤ x ∧ x ≤ 1
  · rw [if_pos hx]
    by_cases hy : 0 ≤ y ∧ y ≤ fc - 1
    · rw [if_pos hy]
      obtain ⟨m, hm', rfl⟩ := fl_nat (b := 24) (n := 24) rfl (by decide) ⟨Int32.le_trans (by decide) hfc.1, hfc.2⟩
      obtain ⟨c, hc0, rfl⟩ := in_nI (nI_toInt (by omega)) hy (by omega)
      have hc : ck (nI c) 24 = true := ck_nI (by omega) (by decide)
      rcases braid_cases hx with rfl | rfl
      · refine ⟨r1 c, ?_, ?_⟩
        · show (if ck (nI c) 24 = true then some (r1 (nI c).toNatClampNeg) else none) = _
          rw [if_pos hc, nI_clamp (by omega)]
        · show (f_Model_marked 0 (nI c) row).bind _ = _
          unfold f_Model_marked
          rw [show (23 + 48 * 0 + 24 + nI c : Int32) = nI (47 + c) from nI_add 47 c, if_pos (ck_nI (by omega) (by decide)), nI_clamp (by omega), h1 c (by omega)]
          exact mark01 (hm c (by omega)).1
      · refine ⟨r2 c, ?_, ?_⟩
        · show (if ck (nI c) 24 = true then some (r2 (nI c).toNatClampNeg) else none) = _
          rw [if_pos hc, nI_clamp (by omega)]
        · show (f_Model_marked 1 (nI c) row).bind _ = _
          unfold f_Model_marked
          rw [show (23 + 48 * 1 + 24 + nI c : Int32) = nI (95 + c) from nI_add 95 c, if_pos (ck_nI (by omega) (by decide)), nI_clamp (by omega), h2 c (by omega)]
          exact mark01 (hm c (by omega)).2
    · rw [if_neg hy]
      exact ⟨-2, rfl, rfl⟩
  · rw [if_neg hx]
    exact ⟨-2, rfl, rfl⟩
theorem p_above {x y fu : Int32} {row : FI} {num n1 n2 : FJ} (hr : row 3 = fu) (hfu : 1 ≤ fu ∧ fu ≤ 16) (h1 : ∀ c, c < 16 → num (16 + c) = n1 c) (h2 : ∀ c, c < 16 → num (48 + c) = n2 c) : ∃ r, f_CB_above x y fu n1 n2 = some r ∧ f_Model_above x y row num = some r := by
  subst hr
  unfold f_CB_above f_Model_above
  rw [p_isBraid.1, p_isBraid.2, p_from, p_in, if_pos (show ck 3 1002 = true from rfl), show ((3 : Int32).toNatClampNeg) = 3 from rfl]
  by_cases hx : (0 : Int32) ≤ x ∧ x ≤ 1
  · rw [if_pos hx]
    by_cases hy : 0 ≤ y ∧ y ≤ row 3 - 1
    · rw [if_pos hy]
      obtain ⟨m, hm, e⟩ := fl_nat (b := 16) (n := 16) rfl (by decide) ⟨Int32.le_trans (by decide) hfu.1, hfu.2⟩
      rw [e] at hy
      obtain ⟨c, hc0, rfl⟩ := in_nI (nI_toInt (by omega)) hy (by omega)
      have hc : ck (nI c) 16 = true := ck_nI (by omega) (by decide)
      rcases braid_cases hx with rfl | rfl
      · refine ⟨n1 c, ?_, ?_⟩
        · show (if ck (nI c) 16 = true then some (n1 (nI c).toNatClampNeg) else none) = _
          rw [if_pos hc, nI_clamp (by omega)]
        · show (f_Model_aboveAt 0 (nI c) num).bind _ = _
          unfold f_Model_aboveAt
          rw [show (32 * 0 + 16 + nI c : Int32) = nI (16 + c) from nI_add 16 c, if_pos (ck_nI (by omega) (by decide)), nI_clamp (by omega), h1 c (by omega)]
          rfl
      · refine ⟨n2 c, ?_, ?_⟩
        · show (if ck (nI c) 16 = true then some (n2 (nI c).toNatClampNeg) else none) = _
          rw [if_pos hc, nI_clamp (by omega)]
        · show (f_Model_aboveAt 1 (nI c) num).bind _ = _
          unfold f_Model_aboveAt
          rw [show (32 * 1 + 16 + nI c : Int32) = nI (48 + c) from nI_add 48 c, if_pos (ck_nI (by omega) (by decide)), nI_clamp (by omega), h2 c (by omega)]
          rfl
    · rw [if_neg hy]
      exact ⟨-2, rfl, rfl⟩
  · rw [if_neg hx]
    exact ⟨-2, rfl, rfl⟩
theorem st13 : ST13 INV := by
  intro v_now_form_counters v_now_form_bits v_now_form_functions v_now_form_countersAbove v_now_form_functionsAbove v_now_form_rounds v_now_flows v_now_keys v_now_first_truths v_now_first_rests v_now_first_marks v_now_first_numbers v_now_second_truths v_now_second_rests v_now_second_marks v_now_second_numbers v_history v_text_codes v_text_length v_text_itemKeys v_text_itemCounts v_text_items v_text_newFlows v_text_at v_decoder_overflows_least v_decoder_overflows_greatest v_decoder_overflows_lowerSums v_decoder_overflows_upperSums v_decoder_overflows_lower v_decoder_overflows_upper v_decoder_overflows_places v_decoder_overflows_placeCounts v_decoder_overflows_things v_decoder_amounts_least v_decoder_amounts_greatest v_decoder_amounts_lowerSums v_decoder_amounts_upperSums v_decoder_amounts_lower v_decoder_amounts_upper v_decoder_amounts_places v_decoder_amounts_placeCounts v_decoder_amounts_things v_trial_form_counters v_trial_form_bits v_trial_form_functions v_trial_form_countersAbove v_trial_form_functionsAbove v_trial_form_rounds v_trial_flows v_trial_keys v_trial_first_truths v_trial_first_rests v_trial_first_marks v_trial_first_numbers v_trial_second_truths v_trial_second_rests v_trial_second_marks v_trial_second_numbers mv_row mv_number mv_saved mv_place mv_low mv_high mv_lowBefore mv_highBefore mv_least mv_greatest mv_things mv_changing mv_overLow mv_overHigh mv_text mv_length mv_at mv_readKey mv_readCount mv_keys mv_h hI y1 y2
  obtain ⟨r, e1, e2⟩ := p_rest (x := y1) (y := y2) (row := mv_row) (r1 := v_now_first_rests) (r2 := v_now_second_rests) hI.1.1.1.1 hI.1.2.1 (fun c hc => by have := (hI.1.1.2.2.1 c hc).1; rw [show 167 * 0 + 23 + c = 23 + c by omega] at this; exact this) (fun c hc => by have := (hI.1.1.2.2.1 c hc).2.2.1; rw [show 167 * 0 + 71 + c = 71 + c by omega] at this; exact this)
  exact ⟨0, r, r, e1, e2, rfl, hI⟩
theorem st14 : ST14 INV := by
  intro v_now_form_counters v_now_form_bits v_now_form_functions v_now_form_countersAbove v_now_form_functionsAbove v_now_form_rounds v_now_flows v_now_keys v_now_first_truths v_now_first_rests v_now_first_marks v_now_first_numbers v_now_second_truths v_now_second_rests v_now_second_marks v_now_second_numbers v_history v_text_codes v_text_length v_text_itemKeys v_text_itemCounts v_text_items v_text_newFlows v_text_at v_decoder_overflows_least v_decoder_overflows_greatest v_decoder_overflows_lowerSums v_decoder_overflows_upperSums v_decoder_overflows_lower v_decoder_overflows_upper v_decoder_overflows_places v_decoder_overflows_placeCounts v_decoder_overflows_things v_decoder_amounts_least v_decoder_amounts_greatest v_decoder_amounts_lowerSums v_decoder_amounts_upperSums v_decoder_amounts_lower v_decoder_amounts_upper v_decoder_amounts_places v_decoder_amounts_placeCounts v_decoder_amounts_things v_trial_form_counters v_trial_form_bits v_trial_form_functions v_trial_form_countersAbove v_trial_form_functionsAbove v_trial_form_rounds v_trial_flows v_trial_keys v_trial_first_truths v_trial_first_rests v_trial_first_marks v_trial_first_numbers v_trial_second_truths v_trial_second_rests v_trial_second_marks v_trial_second_numbers mv_row mv_number mv_saved mv_place mv_low mv_high mv_lowBefore mv_highBefore mv_least mv_greatest mv_things mv_changing mv_overLow mv_overHigh mv_text mv_length mv_at mv_readKey mv_readCount mv_keys mv_h hI y1 y2
  obtain ⟨r, e1, e2⟩ := p_marked (x := y1) (y := y2) (row := mv_row) (r1 := v_now_first_marks) (r2 := v_now_second_marks) hI.1.1.1.1 hI.1.2.1 hI.1.2.2.2.2.2.2.2.2.2.2.1 (fun c hc => by have := (hI.1.1.2.2.1 c hc).2.1; rw [show 167 * 0 + 47 + c = 47 + c by omega] at this; exact this) (fun c hc => by have := (hI.1.1.2.2.1 c hc).2.2.2; rw [show 167 * 0 + 95 + c = 95 + c by omega] at this; exact this)
  exact ⟨0, r, r, e1, e2, rfl, hI⟩
theorem st15 : ST15 INV := by
  intro v_now_form_counters v_now_form_bits v_now_form_functions v_now_form_countersAbove v_now_form_functionsAbove v_now_form_rounds v_now_flows v_now_keys v_now_first_truths v_now_first_rests v_now_first_marks v_now_first_numbers v_now_second_truths v_now_second_rests v_now_second_marks v_now_second_numbers v_history v_text_codes v_text_length v_text_itemKeys v_text_itemCounts v_text_items v_text_newFlows v_text_at v_decoder_overflows_least v_decoder_overflows_greatest v_decoder_overflows_lowerSums v_decoder_overflows_upperSums v_decoder_overflows_lower v_decoder_overflows_upper v_decoder_overflows_places v_decoder_overflows_placeCounts v_decoder_overflows_things v_decoder_amounts_least v_decoder_amounts_greatest v_decoder_amounts_lowerSums v_decoder_amounts_upperSums v_decoder_amounts_lower v_decoder_amounts_upper v_decoder_amounts_places v_decoder_amounts_placeCounts v_decoder_amounts_things v_trial_form_counters v_trial_form_bits v_trial_form_functions v_trial_form_countersAbove v_trial_form_functionsAbove v_trial_form_rounds v_trial_flows v_trial_keys v_trial_first_truths v_trial_first_rests v_trial_first_marks v_trial_first_numbers v_trial_second_truths v_trial_second_rests v_trial_second_marks v_trial_second_numbers mv_row mv_number mv_saved mv_place mv_low mv_high mv_lowBefore mv_highBefore mv_least mv_greatest mv_things mv_changing mv_overLow mv_overHigh mv_text mv_length mv_at mv_readKey mv_readCount mv_keys mv_h hI y1 y2
  obtain ⟨r, e1, e2⟩ := p_above (x := y1) (y := y2) (row := mv_row) (num := mv_number) (n1 := v_now_first_numbers) (n2 := v_now_second_numbers) hI.1.1.1.2.2.2.1 hI.1.2.2.2.2.1 (fun c hc => by have := (hI.1.1.2.2.2 c hc).2.1; rw [show 96 * 0 + 16 + c = 16 + c by omega] at this; exact this) (fun c hc => by have := (hI.1.1.2.2.2 c hc).2.2.2; rw [show 96 * 0 + 48 + c = 48 + c by omega] at this; exact this)
  exact ⟨0, r, r, e1, e2, rfl, hI⟩
