theorem fl_all {b f : Nat} (h1 : 36 ≤ b) (h2 : b ≤ 728) (h3 : 1 ≤ f) (h4 : f ≤ 16) : fl_g b f = true := by
  obtain ⟨g, rfl⟩ : ∃ g, f = g + 1 := ⟨f - 1, by omega⟩
  have e : ∀ k, b = (b - k) + k ∨ b < k := fun k => by omega
  rcases (show b < 136 ∨ (136 ≤ b ∧ b < 236) ∨ (236 ≤ b ∧ b < 336) ∨ (336 ≤ b ∧ b < 436) ∨ (436 ≤ b ∧ b < 536) ∨ (536 ≤ b ∧ b < 636) ∨ 636 ≤ b by omega) with h | h | h | h | h | h | h
  · have := fl_c0 (b - 36) (by omega) g (by omega); rwa [show b - 36 + 36 = b by omega] at this
  · have := fl_c1 (b - 136) (by omega) g (by omega); rwa [show b - 136 + 136 = b by omega] at this
  · have := fl_c2 (b - 236) (by omega) g (by omega); rwa [show b - 236 + 236 = b by omega] at this
  · have := fl_c3 (b - 336) (by omega) g (by omega); rwa [show b - 336 + 336 = b by omega] at this
  · have := fl_c4 (b - 436) (by omega) g (by omega); rwa [show b - 436 + 436 = b by omega] at this
  · have := fl_c5 (b - 536) (by omega) g (by omega); rwa [show b - 536 + 536 = b by omega] at this
  · have := fl_c6 (b - 636) (by omega) g (by omega); rwa [show b - 636 + 636 = b by omega] at this
theorem p_bitsForEach {M D K N Q R F : Nat} {ks : FI} {t1 : FJ} {r1 m1 : FI} {n1 : FJ} {t2 : FJ} {r2 m2 : FI} {n2 : FJ} {row : FI} {num : FJ} (h0 : RS 0 (nI M) (nI D) (nI K) (nI N) (nI Q) (nI R) (nI F) ks t1 r1 m1 n1 t2 r2 m2 n2 row num) (hn : SOKn M D K N Q R F ks t1 r1 m1 n1 t2 r2 m2 n2) : ∃ r, f_CB_bitsForEach 200 (nI M) (nI D) (nI N) (nI F) = some r ∧ f_Model_bitsForEach row = some r := by
  obtain ⟨⟨e0, e1, e2, e3, e4, e5, e6⟩, _, _, _, _, _⟩ := RS0_out h0
  obtain ⟨s1, s2, s3, s4, s5, s6, s7, _⟩ := hn
  have hb : f_Model_bits row = f_CB_bits (nI M) (nI D) (nI N) := p_bits e0 e1 e3
  have eb : f_CB_bits (nI M) (nI D) (nI N) = some (nI (M * (D + 1) + 32 * N)) := by
    unfold f_CB_bits
    rw [nI_1, pk_mul, cx_m32, nI_add]
  have l1 : M * (D + 1) ≤ 24 * 9 := Nat.mul_le_mul s1.2 (by omega)
  have l2 : 2 * 2 ≤ M * (D + 1) := Nat.mul_le_mul s1.1 (by omega)
  unfold f_CB_bitsForEach f_Model_bitsForEach
  rw [if_pos (show ck 6 1002 = true from rfl), cx_n6, e6, hb, eb]
  by_cases hF : F = 0
  · subst hF
    exact ⟨-1, rfl, rfl⟩
  · have g := fl_all (b := M * (D + 1) + 32 * N) (f := F) (by omega) (by omega) (by omega) s7
    unfold fl_g at g
    rw [Bool.and_eq_true, Bool.and_eq_true, decide_eq_true_eq, decide_eq_true_eq] at g
    obtain ⟨⟨g1, g2⟩, g3⟩ := g
    obtain ⟨r, hr⟩ := Option.isSome_iff_exists.mp g3
    rw [if_neg (nI_nle (by omega) (by omega)), if_neg (nI_ne0 (by omega) (by omega)), cx_ob, cx_ob, if_pos g1, if_pos (show ck 6 1002 = true from rfl), if_pos g1, g2, hr]
    exact ⟨r, rfl, rfl⟩
theorem st28 : ST28 INV := by
  intro v_now_form_counters v_now_form_bits v_now_form_functions v_now_form_countersAbove v_now_form_functionsAbove v_now_form_rounds v_now_flows v_now_keys v_now_first_truths v_now_first_rests v_now_first_marks v_now_first_numbers v_now_second_truths v_now_second_rests v_now_second_marks v_now_second_numbers v_history v_text_codes v_text_length v_text_itemKeys v_text_itemCounts v_text_items v_text_newFlows v_text_at v_decoder_overflows_least v_decoder_overflows_greatest v_decoder_overflows_lowerSums v_decoder_overflows_upperSums v_decoder_overflows_lower v_decoder_overflows_upper v_decoder_overflows_places v_decoder_overflows_placeCounts v_decoder_overflows_things v_decoder_amounts_least v_decoder_amounts_greatest v_decoder_amounts_lowerSums v_decoder_amounts_upperSums v_decoder_amounts_lower v_decoder_amounts_upper v_decoder_amounts_places v_decoder_amounts_placeCounts v_decoder_amounts_things v_trial_form_counters v_trial_form_bits v_trial_form_functions v_trial_form_countersAbove v_trial_form_functionsAbove v_trial_form_rounds v_trial_flows v_trial_keys v_trial_first_truths v_trial_first_rests v_trial_first_marks v_trial_first_numbers v_trial_second_truths v_trial_second_rests v_trial_second_marks v_trial_second_numbers mv_row mv_number mv_saved mv_place mv_low mv_high mv_lowBefore mv_highBefore mv_least mv_greatest mv_things mv_changing mv_overLow mv_overHigh mv_text mv_length mv_at mv_readKey mv_readCount mv_keys mv_h hI
  obtain ⟨M, D, K, N, Q, R, F, rfl, rfl, rfl, rfl, rfl, rfl, rfl, hn⟩ := sok_out hI.1.2
  obtain ⟨r, e1, e2⟩ := p_bitsForEach hI.1.1 hn
  exact ⟨200, r, r, e1, e2, rfl, hI⟩
