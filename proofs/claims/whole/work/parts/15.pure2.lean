/-- an int in 0 .. n-1 is a small natural number -/
theorem in_nI {x b : Int32} {n : Nat} (hb : b.toInt = (n : Int)) (h : 0 ≤ x ∧ x ≤ b - 1) (hn : n ≤ 1000) : ∃ j : Nat, j < n ∧ x = nI j := by
  obtain ⟨h1, h2⟩ := h
  have h1 : 0 ≤ x.toInt := Int32.le_iff_toInt_le.mp h1
  have h2 := Int32.le_iff_toInt_le.mp h2
  rcases Nat.eq_zero_or_pos n with h0 | h0
  · subst h0
    have e : b = 0 := Int32.toInt_inj.mp hb
    subst e
    have h2 : x.toInt ≤ -1 := h2
    omega
  · have e : b = nI n := Int32.toInt_inj.mp (by rw [hb, nI_toInt (by omega)])
    obtain ⟨k, rfl⟩ : ∃ k, n = k + 1 := ⟨n - 1, by omega⟩
    rw [e, nI_pred, nI_toInt (by omega)] at h2
    refine ⟨x.toInt.toNat, by omega, Int32.toInt_inj.mp ?_⟩
    rw [nI_toInt (by omega)]
    omega
theorem braid_cases {x : Int32} (h : 0 ≤ x ∧ x ≤ 1) : x = 0 ∨ x = 1 := by
  obtain ⟨j, hj, rfl⟩ := in_nI (b := 2) (n := 2) rfl h (by decide)
  rcases (show j = 0 ∨ j = 1 by omega) with rfl | rfl
  · exact Or.inl rfl
  · exact Or.inr rfl
theorem fl_nat {fl b : Int32} {n : Nat} (hb : b = nI n) (hn : n ≤ 1000) (h : 0 ≤ fl ∧ fl ≤ b) : ∃ m : Nat, m ≤ n ∧ fl = nI m := by
  subst hb
  have h1 : 0 ≤ fl.toInt := Int32.le_iff_toInt_le.mp h.1
  have h2 := Int32.le_iff_toInt_le.mp h.2
  rw [nI_toInt (by omega)] at h2
  refine ⟨fl.toInt.toNat, by omega, Int32.toInt_inj.mp ?_⟩
  rw [nI_toInt (by omega)]
  omega
theorem ck_nI {j n : Nat} (h : j < n) (hn : n < 2 ^ 31) : ck (nI j) n = true := by
  unfold ck
  rw [decide_eq_false (nI_pos (by omega)), nI_clamp (by omega), decide_eq_false (by omega)]
  rfl
theorem p_truth {x y fl : Int32} {row : FI} {num t1 t2 : FJ} (hr : row 6 = fl) (hfl : 0 ≤ fl ∧ fl ≤ 16) (h1 : ∀ f, f < 16 → num f = t1 f) (h2 : ∀ f, f < 16 → num (32 + f) = t2 f) : ∃ r, f_CB_truth x y fl t1 t2 = some r ∧ f_Model_truth x y row num = some r := by
  unfold f_CB_truth f_Model_truth
  rw [p_isBraid.1, p_isBraid.2, (p_isFlow hr).1, (p_isFlow hr).2]
  by_cases hx : (0 : Int32) ≤ x ∧ x ≤ 1
  · rw [if_pos hx]
    by_cases hy : 0 ≤ y ∧ y ≤ fl - 1
    · rw [if_pos hy]
      obtain ⟨m, hm, rfl⟩ := fl_nat (b := 16) (n := 16) rfl (by decide) hfl
      obtain ⟨f, hf, rfl⟩ := in_nI (nI_toInt (by omega)) hy (by omega)
      have hc : ck (nI f) 16 = true := ck_nI (by omega) (by decide)
      rcases braid_cases hx with rfl | rfl
      · refine ⟨t1 f, ?_, ?_⟩
        · show (if ck (nI f) 16 = true then some (t1 (nI f).toNatClampNeg) else none) = _
          rw [if_pos hc, nI_clamp (by omega)]
        · show (f_Model_truthAt 0 (nI f) num).bind _ = _
          unfold f_Model_truthAt
          rw [show (32 * 0 + nI f : Int32) = nI f from by rw [show (32 * 0 : Int32) = 0 from rfl, Int32.zero_add], if_pos (ck_nI (by omega) (by decide)), nI_clamp (by omega), h1 f (by omega)]
          rfl
      · refine ⟨t2 f, ?_, ?_⟩
        · show (if ck (nI f) 16 = true then some (t2 (nI f).toNatClampNeg) else none) = _
          rw [if_pos hc, nI_clamp (by omega)]
        · show (f_Model_truthAt 1 (nI f) num).bind _ = _
          unfold f_Model_truthAt
          rw [show (32 * 1 + nI f : Int32) = nI (32 + f) from nI_add 32 f, if_pos (ck_nI (by omega) (by decide)), nI_clamp (by omega), h2 f (by omega)]
          rfl
    · rw [if_neg hy]
      exact ⟨-2, rfl, rfl⟩
  · rw [if_neg hx]
    exact ⟨-2, rfl, rfl⟩
theorem p_key {x fl : Int32} {row ks : FI} (hr : row 6 = fl) (hfl : 0 ≤ fl ∧ fl ≤ 16) (h1 : ∀ f, f < 16 → row (7 + f) = ks f) : ∃ r, f_CB_key x fl ks = some r ∧ f_Model_key x row = some r := by
  unfold f_CB_key f_Model_key
  rw [(p_isFlow hr).1, (p_isFlow hr).2]
  by_cases hy : 0 ≤ x ∧ x ≤ fl - 1
  · rw [if_pos hy]
    obtain ⟨m, hm, rfl⟩ := fl_nat (b := 16) (n := 16) rfl (by decide) hfl
    obtain ⟨f, hf, rfl⟩ := in_nI (nI_toInt (by omega)) hy (by omega)
    refine ⟨ks f, ?_, ?_⟩
    · show (if ck (nI f) 16 = true then some (ks (nI f).toNatClampNeg) else none) = _
      rw [if_pos (ck_nI (by omega) (by decide)), nI_clamp (by omega)]
    · show (if ck (7 + nI f) 1002 = true then some (row (7 + nI f).toNatClampNeg) else none) = _
      rw [show (7 + nI f : Int32) = nI (7 + f) from nI_add 7 f, if_pos (ck_nI (by omega) (by decide)), nI_clamp (by omega), h1 f (by omega)]
  · rw [if_neg hy]
    exact ⟨-2, rfl, rfl⟩
theorem st5 : ST5 INV := by
  intro v_now_form_counters v_now_form_bits v_now_form_functions v_now_form_countersAbove v_now_form_functionsAbove v_now_form_rounds v_now_flows v_now_keys v_now_first_truths v_now_first_rests v_now_first_marks v_now_first_numbers v_now_second_truths v_now_second_rests v_now_second_marks v_now_second_numbers v_history v_text_codes v_text_length v_text_itemKeys v_text_itemCounts v_text_items v_text_newFlows v_text_at v_decoder_overflows_least v_decoder_overflows_greatest v_decoder_overflows_lowerSums v_decoder_overflows_upperSums v_decoder_overflows_lower v_decoder_overflows_upper v_decoder_overflows_places v_decoder_overflows_placeCounts v_decoder_overflows_things v_decoder_amounts_least v_decoder_amounts_greatest v_decoder_amounts_lowerSums v_decoder_amounts_upperSums v_decoder_amounts_lower v_decoder_amounts_upper v_decoder_amounts_places v_decoder_amounts_placeCounts v_decoder_amounts_things v_trial_form_counters v_trial_form_bits v_trial_form_functions v_trial_form_countersAbove v_trial_form_functionsAbove v_trial_form_rounds v_trial_flows v_trial_keys v_trial_first_truths v_trial_first_rests v_trial_first_marks v_trial_first_numbers v_trial_second_truths v_trial_second_rests v_trial_second_marks v_trial_second_numbers mv_row mv_number mv_saved mv_place mv_low mv_high mv_lowBefore mv_highBefore mv_least mv_greatest mv_things mv_changing mv_overLow mv_overHigh mv_text mv_length mv_at mv_readKey mv_readCount mv_keys mv_h hI y1
  obtain ⟨r, e1, e2⟩ := p_key (x := y1) (row := mv_row) (ks := v_now_keys) hI.1.1.1.2.2.2.2.2.2 hI.1.2.2.2.2.2.2.2.1 (fun f hf => hI.1.1.2.1 f hf)
  exact ⟨0, r, r, e1, e2, rfl, hI⟩
theorem st12 : ST12 INV := by
  intro v_now_form_counters v_now_form_bits v_now_form_functions v_now_form_countersAbove v_now_form_functionsAbove v_now_form_rounds v_now_flows v_now_keys v_now_first_truths v_now_first_rests v_now_first_marks v_now_first_numbers v_now_second_truths v_now_second_rests v_now_second_marks v_now_second_numbers v_history v_text_codes v_text_length v_text_itemKeys v_text_itemCounts v_text_items v_text_newFlows v_text_at v_decoder_overflows_least v_decoder_overflows_greatest v_decoder_overflows_lowerSums v_decoder_overflows_upperSums v_decoder_overflows_lower v_decoder_overflows_upper v_decoder_overflows_places v_decoder_overflows_placeCounts v_decoder_overflows_things v_decoder_amounts_least v_decoder_amounts_greatest v_decoder_amounts_lowerSums v_decoder_amounts_upperSums v_decoder_amounts_lower v_decoder_amounts_upper v_decoder_amounts_places v_decoder_amounts_placeCounts v_decoder_amounts_things v_trial_form_counters v_trial_form_bits v_trial_form_functions v_trial_form_countersAbove v_trial_form_functionsAbove v_trial_form_rounds v_trial_flows v_trial_keys v_trial_first_truths v_trial_first_rests v_trial_first_marks v_trial_first_numbers v_trial_second_truths v_trial_second_rests v_trial_second_marks v_trial_second_numbers mv_row mv_number mv_saved mv_place mv_low mv_high mv_lowBefore mv_highBefore mv_least mv_greatest mv_things mv_changing mv_overLow mv_overHigh mv_text mv_length mv_at mv_readKey mv_readCount mv_keys mv_h hI y1 y2
  obtain ⟨r, e1, e2⟩ := p_truth (x := y1) (y := y2) (row := mv_row) (num := mv_number) (t1 := v_now_first_truths) (t2 := v_now_second_truths) hI.1.1.1.2.2.2.2.2.2 hI.1.2.2.2.2.2.2.2.1 (fun f hf => by have := (hI.1.1.2.2.2 f hf).1; rw [show 96 * 0 + f = f by omega] at this; exact this) (fun f hf => by have := (hI.1.1.2.2.2 f hf).2.2.1; rw [show 96 * 0 + 32 + f = 32 + f by omega] at this; exact this)
  exact ⟨0, r, r, e1, e2, rfl, hI⟩
