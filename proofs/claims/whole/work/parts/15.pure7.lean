theorem p_masks {key fc : Int32} {row : FI} {m : Nat} {K1 K2 : Int32 → Int32 → Option Int32} (hm : m ≤ 4) (h0 : row 0 = fc) (h2 : row 2 = nI m) (hfc : 2 ≤ fc ∧ fc ≤ 24) : ∀ (n i : Nat) (mask : Int32), i ≤ m → m < i + n → ∃ r, f_Form_placesOfKey_L4 key fc (nI m) K1 n mask (nI i) = K1 r (nI m) ∧ f_Model_placesOf_L4 key row K2 n mask (nI i) = K2 r (nI m) := by
  have hz : ¬ fc ≤ 0 := fun h => absurd (Int32.le_trans hfc.1 h) (by decide)
  have hne : ¬ fc = 0 := fun h => hz (by rw [h]; decide)
  have c0 : (0 : Int32).toNatClampNeg = 0 := rfl
  have c2 : (2 : Int32).toNatClampNeg = 2 := rfl
  intro n
  induction n with
  | zero => intro i mask h1 h2; omega
  | succ n ih =>
    intro i mask h1 h3
    rw [f_Form_placesOfKey_L4, f_Model_placesOf_L4, if_pos (show ck 2 1002 = true from rfl), c2, h2]
    by_cases q : i = m
    · subst q
      rw [if_pos (nI_le (Nat.le_refl _) (by omega)), if_pos (nI_le (Nat.le_refl _) (by omega))]
      exact ⟨mask, rfl, rfl⟩
    · rw [if_neg (nI_ge (by omega) (by omega)), if_neg (nI_ge (by omega) (by omega)), if_neg (show ¬ (4 : Int32) ≤ nI i from nI_ge (a := i) (b := 4) (by omega) (by decide)), if_pos (ck_nI (by omega) (by decide)), if_pos (ck_nI (by omega) (by decide))]
      unfold f_Form_remainder
      rw [if_neg hz, if_neg hne, Option.bind_some, nI_1]
      unfold f_Model_placesOf_J46 f_Model_placesOf_J78
      rw [if_pos (show ck 0 1002 = true from rfl), c0, h0, if_neg hne]
      rcases (show i = 0 ∨ i = 1 ∨ i = 2 ∨ i = 3 by omega) with rfl | rfl | rfl | rfl
      · exact ih 1 _ (by omega) (by omega)
      · rw [show sv0 (nI 1).toNatClampNeg = 73 from rfl, show sv1 (nI 1).toNatClampNeg = 17 from rfl]
        simp only [if_neg (show ¬ nI 1 = (0 : Int32) by decide), if_pos (show nI 1 = (1 : Int32) from rfl)]
        rw [if_pos (show ck 0 1002 = true from rfl), if_neg hne]
        exact ih 2 _ (by omega) (by omega)
      · rw [show sv0 (nI 2).toNatClampNeg = 97 from rfl, show sv1 (nI 2).toNatClampNeg = 29 from rfl]
        simp only [if_neg (show ¬ nI 2 = (0 : Int32) by decide), if_neg (show ¬ nI 2 = (1 : Int32) by decide), if_pos (show nI 2 = (2 : Int32) from rfl)]
        rw [if_pos (show ck 0 1002 = true from rfl), if_neg hne]
        exact ih 3 _ (by omega) (by omega)
      · rw [show sv0 (nI 3).toNatClampNeg = 131 from rfl, show sv1 (nI 3).toNatClampNeg = 53 from rfl]
        simp only [if_neg (show ¬ nI 3 = (0 : Int32) by decide), if_neg (show ¬ nI 3 = (1 : Int32) by decide), if_neg (show ¬ nI 3 = (2 : Int32) by decide)]
        rw [if_pos (show ck 0 1002 = true from rfl), if_neg hne]
        exact ih 4 _ (by omega) (by omega)
theorem p_placesOf {key fc ff : Int32} {row : FI} (h0 : row 0 = fc) (h2 : row 2 = ff) (hfc : 2 ≤ fc ∧ fc ≤ 24) (hff : 1 ≤ ff ∧ ff ≤ 4) : ∃ r, f_Form_placesOfKey 200 key fc ff = some r ∧ f_Model_placesOf 200 key row = some r := by
  obtain ⟨m, hm, rfl⟩ := fl_nat (b := 4) (n := 4) rfl (by decide) ⟨Int32.le_trans (by decide) hff.1, hff.2⟩
  obtain ⟨r, e1, e2⟩ := p_masks (key := key) (K1 := fun i6 i7 => some i6) (K2 := fun i13 i14 => some i13) hm h0 h2 hfc 200 0 0 (Nat.zero_le _) (by omega)
  exact ⟨r, e1, e2⟩
theorem p_places {x fc ff fl : Int32} {ks row : FI} (hr : row 6 = fl) (h0 : row 0 = fc) (h2 : row 2 = ff) (hfl : 0 ≤ fl ∧ fl ≤ 16) (hfc : 2 ≤ fc ∧ fc ≤ 24) (hff : 1 ≤ ff ∧ ff ≤ 4) (h1 : ∀ f, f < 16 → row (7 + f) = ks f) : ∃ r, f_CB_places 200 x fc ff fl ks = some r ∧ f_Model_places 200 x row = some r := by
  unfold f_CB_places f_Model_places
  rw [(p_isFlow hr).1, (p_isFlow hr).2]
  by_cases hy : 0 ≤ x ∧ x ≤ fl - 1
  · rw [if_pos hy]
    obtain ⟨m, hm, rfl⟩ := fl_nat (b := 16) (n := 16) rfl (by decide) hfl
    obtain ⟨f, hf, rfl⟩ := in_nI (nI_toInt (by omega)) hy (by omega)
    obtain ⟨r, e1, e2⟩ := p_placesOf (key := ks f) h0 h2 hfc hff
    refine ⟨r, ?_, ?_⟩
    · show (if ck (nI f) 16 = true then (f_Form_placesOfKey 200 (ks (nI f).toNatClampNeg) fc ff).bind (fun r2 => some r2) else none) = _
      rw [if_pos (ck_nI (by omega) (by decide)), nI_clamp (by omega), e1]
      rfl
    · show (if ck (7 + nI f) 1002 = true then (f_Model_placesOf 200 (row (7 + nI f).toNatClampNeg) row).bind (fun r2 => some r2) else none) = _
      rw [show (7 + nI f : Int32) = nI (7 + f) from nI_add 7 f, if_pos (ck_nI (by omega) (by decide)), nI_clamp (by omega), h1 f (by omega), e2]
      rfl
  · rw [if_neg hy]
    exact ⟨-2, rfl, rfl⟩
theorem st7 : ST7 INV := by
  intro v_now_form_counters v_now_form_bits v_now_form_functions v_now_form_countersAbove v_now_form_functionsAbove v_now_form_rounds v_now_flows v_now_keys v_now_first_truths v_now_first_rests v_now_first_marks v_now_first_numbers v_now_second_truths v_now_second_rests v_now_second_marks v_now_second_numbers v_history v_text_codes v_text_length v_text_itemKeys v_text_itemCounts v_text_items v_text_newFlows v_text_at v_decoder_overflows_least v_decoder_overflows_greatest v_decoder_overflows_lowerSums v_decoder_overflows_upperSums v_decoder_overflows_lower v_decoder_overflows_upper v_decoder_overflows_places v_decoder_overflows_placeCounts v_decoder_overflows_things v_decoder_amounts_least v_decoder_amounts_greatest v_decoder_amounts_lowerSums v_decoder_amounts_upperSums v_decoder_amounts_lower v_decoder_amounts_upper v_decoder_amounts_places v_decoder_amounts_placeCounts v_decoder_amounts_things v_trial_form_counters v_trial_form_bits v_trial_form_functions v_trial_form_countersAbove v_trial_form_functionsAbove v_trial_form_rounds v_trial_flows v_trial_keys v_trial_first_truths v_trial_first_rests v_trial_first_marks v_trial_first_numbers v_trial_second_truths v_trial_second_rests v_trial_second_marks v_trial_second_numbers mv_row mv_number mv_saved mv_place mv_low mv_high mv_lowBefore mv_highBefore mv_least mv_greatest mv_things mv_changing mv_overLow mv_overHigh mv_text mv_length mv_at mv_readKey mv_readCount mv_keys mv_h hI y1
  obtain ⟨r, e1, e2⟩ := p_places (x := y1) (row := mv_row) (ks := v_now_keys) hI.1.1.1.2.2.2.2.2.2 hI.1.1.1.1 hI.1.1.1.2.2.1 hI.1.2.2.2.2.2.2.2.1 hI.1.2.1 hI.1.2.2.2.1 (fun f hf => hI.1.1.2.1 f hf)
  exact ⟨200, r, r, e1, e2, rfl, hI⟩
