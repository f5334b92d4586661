theorem p_type {x len mlen : Int32} {codes text : FI} (h : TXR codes len text mlen) : ∃ r1 r2, f_CB_type x codes len = some r1 ∧ f_Model_type x text mlen = some r2 ∧ r1.1 = r2.1 ∧ TXR r1.2.1 r1.2.2 r2.2.1 r2.2.2 := by
  obtain ⟨n, hn, rfl, rfl, ht⟩ := h
  unfold f_CB_type f_Model_type
  rw [p_from, p_in]
  by_cases hx : (0 : Int32) ≤ x ∧ x ≤ 255
  · rw [if_pos hx]
    rcases Nat.lt_or_ge n 100 with h1 | h1
    · have hlt : nI n < 100 := (nI_ltI (b := 100) (by omega) (by decide)).mpr h1
      have hne : ¬ nI n = 100 := fun e => by
        have := (nI_eq (b := 100) (by omega) (by decide)).mp e
        omega
      have hc : ck (nI n) 100 = true := ck_nI h1 (by decide)
      refine ⟨(nI n + 1, upd codes (nI n).toNatClampNeg x, nI n + 1), (nI n + 1, upd text (nI n).toNatClampNeg x, nI n + 1), ?_, ?_, rfl, n + 1, h1, nI_1 n, nI_1 n, fun j hj => ?_⟩
      · show (f_Text_append x codes (nI n)).bind _ = _
        unfold f_Text_append
        rw [if_pos hlt, if_pos hc]
        rfl
      · show (if nI n = 100 then _ else if ck (nI n) 100 = true then _ else none) = _
        rw [if_neg hne, if_pos hc]
      · show upd codes (nI n).toNatClampNeg x j = upd text (nI n).toNatClampNeg x j ∧ 0 ≤ upd codes (nI n).toNatClampNeg x j
        rw [nI_clamp (by omega)]
        by_cases q : j = n
        · subst q; rw [pk_us, pk_us]; exact ⟨rfl, hx.1⟩
        · rw [pk_un q, pk_un q]; exact ht j (by omega)
    · have e : n = 100 := by omega
      subst e
      refine ⟨(-5, codes, nI 100), (-5, text, nI 100), rfl, rfl, rfl, 100, hn, rfl, rfl, ht⟩
  · rw [if_neg hx]
    exact ⟨(-3, codes, nI n), (-3, text, nI n), rfl, rfl, rfl, n, hn, rfl, rfl, ht⟩
theorem st30 : ST30 INV := by
  intro v_now_form_counters v_now_form_bits v_now_form_functions v_now_form_countersAbove v_now_form_functionsAbove v_now_form_rounds v_now_flows v_now_keys v_now_first_truths v_now_first_rests v_now_first_marks v_now_first_numbers v_now_second_truths v_now_second_rests v_now_second_marks v_now_second_numbers v_history v_text_codes v_text_length v_text_itemKeys v_text_itemCounts v_text_items v_text_newFlows v_text_at v_decoder_overflows_least v_decoder_overflows_greatest v_decoder_overflows_lowerSums v_decoder_overflows_upperSums v_decoder_overflows_lower v_decoder_overflows_upper v_decoder_overflows_places v_decoder_overflows_placeCounts v_decoder_overflows_things v_decoder_amounts_least v_decoder_amounts_greatest v_decoder_amounts_lowerSums v_decoder_amounts_upperSums v_decoder_amounts_lower v_decoder_amounts_upper v_decoder_amounts_places v_decoder_amounts_placeCounts v_decoder_amounts_things v_trial_form_counters v_trial_form_bits v_trial_form_functions v_trial_form_countersAbove v_trial_form_functionsAbove v_trial_form_rounds v_trial_flows v_trial_keys v_trial_first_truths v_trial_first_rests v_trial_first_marks v_trial_first_numbers v_trial_second_truths v_trial_second_rests v_trial_second_marks v_trial_second_numbers mv_row mv_number mv_saved mv_place mv_low mv_high mv_lowBefore mv_highBefore mv_least mv_greatest mv_things mv_changing mv_overLow mv_overHigh mv_text mv_length mv_at mv_readKey mv_readCount mv_keys mv_h hI y1
  obtain ⟨h1, h2, h3⟩ := hI
  obtain ⟨r1, r2, e1, e2, e3, e4⟩ := p_type (x := y1) h3
  exact ⟨0, r1, r2, e1, e2, e3, h1, h2, e4⟩
