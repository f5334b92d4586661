theorem p_masksUp {key fu : Int32} {row : FI} {m : Nat} {K1 K2 : Int32 → Int32 → Option Int32} (hm : m ≤ 3) (h0 : row 3 = fu) (h2 : row 4 = nI m) (hfu : 1 ≤ fu ∧ fu ≤ 16) : ∀ (n i : Nat) (mask : Int32), i ≤ m → m < i + n → ∃ r, f_Form_placesOfCounter_L4 key fu (nI m) K1 n mask (nI i) = K1 r (nI m) ∧ f_Model_placesUp_L4 key row K2 n mask (nI i) = K2 r (nI m) := by
  have hz : ¬ fu ≤ 0 := fun h => absurd (Int32.le_trans hfu.1 h) (by decide)
  have hne : ¬ fu = 0 := fun h => hz (by rw [h]; decide)
  have c0 : (3 : Int32).toNatClampNeg = 3 := rfl
  have c2 : (4 : Int32).toNatClampNeg = 4 := rfl
  intro n
  induction n with
  | zero => intro i mask h1 h2; omega
  | succ n ih =>
    intro i mask h1 h3
    rw [f_Form_placesOfCounter_L4, f_Model_placesUp_L4, if_pos (show ck 4 1002 = true from rfl), c2, h2]
    by_cases q : i = m
    · subst q
      rw [if_pos (nI_le (Nat.le_refl _) (by omega)), if_pos (nI_le (Nat.le_refl _) (by omega))]
      exact ⟨mask, rfl, rfl⟩
    · rw [if_neg (nI_ge (by omega) (by omega)), if_neg (nI_ge (by omega) (by omega)), if_neg (show ¬ (3 : Int32) ≤ nI i from nI_ge (a := i) (b := 3) (by omega) (by decide)), if_pos (ck_nI (by omega) (by decide)), if_pos (ck_nI (by omega) (by decide))]
      unfold f_Form_remainder
      rw [if_neg hz, if_neg hne, Option.bind_some, nI_1]
      unfold f_Model_placesUp_J35 f_Model_placesUp_J57
      rw [if_pos (show ck 3 1002 = true from rfl), c0, h0, if_neg hne]
      rcases (show i = 0 ∨ i = 1 ∨ i = 2 by omega) with rfl | rfl | rfl
      · exact ih 1 _ (by omega) (by omega)
      · rw [show sv2 (nI 1).toNatClampNeg = 37 from rfl, show sv3 (nI 1).toNatClampNeg = 11 from rfl]
        simp only [if_neg (show ¬ nI 1 = (0 : Int32) by decide), if_pos (show nI 1 = (1 : Int32) from rfl)]
        rw [if_pos (show ck 3 1002 = true from rfl), if_neg hne]
        exact ih 2 _ (by omega) (by omega)
      · rw [show sv2 (nI 2).toNatClampNeg = 61 from rfl, show sv3 (nI 2).toNatClampNeg = 23 from rfl]
        simp only [if_neg (show ¬ nI 2 = (0 : Int32) by decide), if_neg (show ¬ nI 2 = (1 : Int32) by decide)]
        rw [if_pos (show ck 3 1002 = true from rfl), if_neg hne]
        exact ih 3 _ (by omega) (by omega)
theorem p_placesUp {key fu fv : Int32} {row : FI} (h0 : row 3 = fu) (h2 : row 4 = fv) (hfu : 1 ≤ fu ∧ fu ≤ 16) (hfv : 1 ≤ fv ∧ fv ≤ 3) : ∃ r, f_Form_placesOfCounter 200 key fu fv = some r ∧ f_Model_placesUp 200 key row = some r := by
  obtain ⟨m, hm, rfl⟩ := fl_nat (b := 3) (n := 3) rfl (by decide) ⟨Int32.le_trans (by decide) hfv.1, hfv.2⟩
  obtain ⟨r, e1, e2⟩ := p_masksUp (key := key) (K1 := fun i6 i7 => some i6) (K2 := fun i13 i14 => some i13) hm h0 h2 hfu 200 0 0 (Nat.zero_le _) (by omega)
  exact ⟨r, e1, e2⟩
theorem p_placesAbove {x fc fu fv : Int32} {row : FI} (hr : row 0 = fc) (h0 : row 3 = fu) (h2 : row 4 = fv) (hfu : 1 ≤ fu ∧ fu ≤ 16) (hfv : 1 ≤ fv ∧ fv ≤ 3) : ∃ r, f_CB_placesAbove 200 x fc fu fv = some r ∧ f_Model_placesAbove 200 x row = some r := by
  unfold f_CB_placesAbove f_Model_placesAbove
  rw [(p_isCounter hr).1, (p_isCounter hr).2]
  by_cases hy : 0 ≤ x ∧ x ≤ fc - 1
  · rw [if_pos hy]
    obtain ⟨r, e1, e2⟩ := p_placesUp (key := x) h0 h2 hfu hfv
    refine ⟨r, ?_, ?_⟩
    · show (f_Form_placesOfCounter 200 x fu fv).bind _ = _
      rw [e1]; rfl
    · show (f_Model_placesUp 200 x row).bind _ = _
      rw [e2]; rfl
  · rw [if_neg hy]
    exact ⟨-2, rfl, rfl⟩
theorem st8 : ST8 INV := by
  intro v_now_form_counters v_now_form_bits v_now_form_functions v_now_form_countersAbove v_now_form_functionsAbove v_now_form_rounds v_now_flows v_now_keys v_now_first_truths v_now_first_rests v_now_first_marks v_now_first_numbers v_now_second_truths v_now_second_rests v_now_second_marks v_now_second_numbers v_history v_text_codes v_text_length v_text_itemKeys v_text_itemCounts v_text_items v_text_newFlows v_text_at v_decoder_overflows_least v_decoder_overflows_greatest v_decoder_overflows_lowerSums v_decoder_overflows_upperSums v_decoder_overflows_lower v_decoder_overflows_upper v_decoder_overflows_places v_decoder_overflows_placeCounts v_decoder_overflows_things v_decoder_amounts_least v_decoder_amounts_greatest v_decoder_amounts_lowerSums v_decoder_amounts_upperSums v_decoder_amounts_lower v_decoder_amounts_upper v_decoder_amounts_places v_decoder_amounts_placeCounts v_decoder_amounts_things v_trial_form_counters v_trial_form_bits v_trial_form_functions v_trial_form_countersAbove v_trial_form_functionsAbove v_trial_form_rounds v_trial_flows v_trial_keys v_trial_first_truths v_trial_first_rests v_trial_first_marks v_trial_first_numbers v_trial_second_truths v_trial_second_rests v_trial_second_marks v_trial_second_numbers mv_row mv_number mv_saved mv_place mv_low mv_high mv_lowBefore mv_highBefore mv_least mv_greatest mv_things mv_changing mv_overLow mv_overHigh mv_text mv_length mv_at mv_readKey mv_readCount mv_keys mv_h hI y1
  obtain ⟨r, e1, e2⟩ := p_placesAbove (x := y1) (row := mv_row) hI.1.1.1.1 hI.1.1.1.2.2.2.1 hI.1.1.1.2.2.2.2.1 hI.1.2.2.2.2.1 hI.1.2.2.2.2.2.1
  exact ⟨200, r, r, e1, e2, rfl, hI⟩
