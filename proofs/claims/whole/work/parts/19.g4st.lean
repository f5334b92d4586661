theorem fl_j {s t n m k : Nat} (h1 : fl_P s n) (h2 : fl_P t m) (e : t = s + n) (ek : k = n + m) : fl_P s k := by
  intro b hb f hf
  subst e ek
  by_cases h : b < n
  · exact h1 b h f hf
  · have := h2 (b - n) (by omega) f hf
    rwa [show b - n + (s + n) = b + s by omega] at this
theorem fl_d0 : fl_P 36 5 := fl_c0
theorem fl_d1 : fl_P 36 10 := fl_j fl_d0 fl_c1 rfl rfl
theorem fl_d2 : fl_P 36 15 := fl_j fl_d1 fl_c2 rfl rfl
theorem fl_d3 : fl_P 36 20 := fl_j fl_d2 fl_c3 rfl rfl
theorem fl_d4 : fl_P 36 25 := fl_j fl_d3 fl_c4 rfl rfl
theorem fl_d5 : fl_P 36 30 := fl_j fl_d4 fl_c5 rfl rfl
theorem fl_d6 : fl_P 36 35 := fl_j fl_d5 fl_c6 rfl rfl
theorem fl_d7 : fl_P 36 40 := fl_j fl_d6 fl_c7 rfl rfl
theorem fl_d8 : fl_P 36 45 := fl_j fl_d7 fl_c8 rfl rfl
theorem fl_d9 : fl_P 36 50 := fl_j fl_d8 fl_c9 rfl rfl
theorem fl_d10 : fl_P 36 55 := fl_j fl_d9 fl_c10 rfl rfl
theorem fl_d11 : fl_P 36 60 := fl_j fl_d10 fl_c11 rfl rfl
theorem fl_d12 : fl_P 36 65 := fl_j fl_d11 fl_c12 rfl rfl
theorem fl_d13 : fl_P 36 70 := fl_j fl_d12 fl_c13 rfl rfl
theorem fl_d14 : fl_P 36 75 := fl_j fl_d13 fl_c14 rfl rfl
theorem fl_d15 : fl_P 36 80 := fl_j fl_d14 fl_c15 rfl rfl
theorem fl_d16 : fl_P 36 85 := fl_j fl_d15 fl_c16 rfl rfl
theorem fl_d17 : fl_P 36 90 := fl_j fl_d16 fl_c17 rfl rfl
theorem fl_d18 : fl_P 36 95 := fl_j fl_d17 fl_c18 rfl rfl
theorem fl_d19 : fl_P 36 100 := fl_j fl_d18 fl_c19 rfl rfl
theorem fl_d20 : fl_P 36 105 := fl_j fl_d19 fl_c20 rfl rfl
theorem fl_d21 : fl_P 36 110 := fl_j fl_d20 fl_c21 rfl rfl
theorem fl_d22 : fl_P 36 115 := fl_j fl_d21 fl_c22 rfl rfl
theorem fl_d23 : fl_P 36 120 := fl_j fl_d22 fl_c23 rfl rfl
theorem fl_d24 : fl_P 36 125 := fl_j fl_d23 fl_c24 rfl rfl
theorem fl_d25 : fl_P 36 130 := fl_j fl_d24 fl_c25 rfl rfl
theorem fl_d26 : fl_P 36 135 := fl_j fl_d25 fl_c26 rfl rfl
theorem fl_d27 : fl_P 36 140 := fl_j fl_d26 fl_c27 rfl rfl
theorem fl_d28 : fl_P 36 145 := fl_j fl_d27 fl_c28 rfl rfl
theorem fl_d29 : fl_P 36 150 := fl_j fl_d28 fl_c29 rfl rfl
theorem fl_d30 : fl_P 36 155 := fl_j fl_d29 fl_c30 rfl rfl
theorem fl_d31 : fl_P 36 160 := fl_j fl_d30 fl_c31 rfl rfl
theorem fl_d32 : fl_P 36 165 := fl_j fl_d31 fl_c32 rfl rfl
theorem fl_d33 : fl_P 36 170 := fl_j fl_d32 fl_c33 rfl rfl
theorem fl_d34 : fl_P 36 175 := fl_j fl_d33 fl_c34 rfl rfl
theorem fl_d35 : fl_P 36 180 := fl_j fl_d34 fl_c35 rfl rfl
theorem fl_d36 : fl_P 36 185 := fl_j fl_d35 fl_c36 rfl rfl
theorem fl_d37 : fl_P 36 190 := fl_j fl_d36 fl_c37 rfl rfl
theorem fl_d38 : fl_P 36 195 := fl_j fl_d37 fl_c38 rfl rfl
theorem fl_d39 : fl_P 36 200 := fl_j fl_d38 fl_c39 rfl rfl
theorem fl_d40 : fl_P 36 205 := fl_j fl_d39 fl_c40 rfl rfl
theorem fl_d41 : fl_P 36 210 := fl_j fl_d40 fl_c41 rfl rfl
theorem fl_d42 : fl_P 36 215 := fl_j fl_d41 fl_c42 rfl rfl
theorem fl_d43 : fl_P 36 220 := fl_j fl_d42 fl_c43 rfl rfl
theorem fl_d44 : fl_P 36 225 := fl_j fl_d43 fl_c44 rfl rfl
theorem fl_d45 : fl_P 36 230 := fl_j fl_d44 fl_c45 rfl rfl
theorem fl_d46 : fl_P 36 235 := fl_j fl_d45 fl_c46 rfl rfl
theorem fl_d47 : fl_P 36 240 := fl_j fl_d46 fl_c47 rfl rfl
theorem fl_d48 : fl_P 36 245 := fl_j fl_d47 fl_c48 rfl rfl
theorem fl_d49 : fl_P 36 250 := fl_j fl_d48 fl_c49 rfl rfl
theorem fl_d50 : fl_P 36 255 := fl_j fl_d49 fl_c50 rfl rfl
theorem fl_d51 : fl_P 36 260 := fl_j fl_d50 fl_c51 rfl rfl
theorem fl_d52 : fl_P 36 265 := fl_j fl_d51 fl_c52 rfl rfl
theorem fl_d53 : fl_P 36 270 := fl_j fl_d52 fl_c53 rfl rfl
theorem fl_d54 : fl_P 36 275 := fl_j fl_d53 fl_c54 rfl rfl
theorem fl_d55 : fl_P 36 280 := fl_j fl_d54 fl_c55 rfl rfl
theorem fl_d56 : fl_P 36 285 := fl_j fl_d55 fl_c56 rfl rfl
theorem fl_d57 : fl_P 36 290 := fl_j fl_d56 fl_c57 rfl rfl
theorem fl_d58 : fl_P 36 295 := fl_j fl_d57 fl_c58 rfl rfl
theorem fl_d59 : fl_P 36 300 := fl_j fl_d58 fl_c59 rfl rfl
theorem fl_d60 : fl_P 36 305 := fl_j fl_d59 fl_c60 rfl rfl
theorem fl_d61 : fl_P 36 310 := fl_j fl_d60 fl_c61 rfl rfl
theorem fl_d62 : fl_P 36 315 := fl_j fl_d61 fl_c62 rfl rfl
theorem fl_d63 : fl_P 36 320 := fl_j fl_d62 fl_c63 rfl rfl
theorem fl_d64 : fl_P 36 325 := fl_j fl_d63 fl_c64 rfl rfl
theorem fl_d65 : fl_P 36 330 := fl_j fl_d64 fl_c65 rfl rfl
theorem fl_d66 : fl_P 36 335 := fl_j fl_d65 fl_c66 rfl rfl
theorem fl_d67 : fl_P 36 340 := fl_j fl_d66 fl_c67 rfl rfl
theorem fl_d68 : fl_P 36 345 := fl_j fl_d67 fl_c68 rfl rfl
theorem fl_d69 : fl_P 36 350 := fl_j fl_d68 fl_c69 rfl rfl
theorem fl_d70 : fl_P 36 355 := fl_j fl_d69 fl_c70 rfl rfl
theorem fl_d71 : fl_P 36 360 := fl_j fl_d70 fl_c71 rfl rfl
theorem fl_d72 : fl_P 36 365 := fl_j fl_d71 fl_c72 rfl rfl
theorem fl_d73 : fl_P 36 370 := fl_j fl_d72 fl_c73 rfl rfl
theorem fl_d74 : fl_P 36 375 := fl_j fl_d73 fl_c74 rfl rfl
theorem fl_d75 : fl_P 36 380 := fl_j fl_d74 fl_c75 rfl rfl
theorem fl_d76 : fl_P 36 385 := fl_j fl_d75 fl_c76 rfl rfl
theorem fl_d77 : fl_P 36 390 := fl_j fl_d76 fl_c77 rfl rfl
theorem fl_d78 : fl_P 36 395 := fl_j fl_d77 fl_c78 rfl rfl
theorem fl_d79 : fl_P 36 400 := fl_j fl_d78 fl_c79 rfl rfl
theorem fl_d80 : fl_P 36 405 := fl_j fl_d79 fl_c80 rfl rfl
theorem fl_d81 : fl_P 36 410 := fl_j fl_d80 fl_c81 rfl rfl
theorem fl_d82 : fl_P 36 415 := fl_j fl_d81 fl_c82 rfl rfl
theorem fl_d83 : fl_P 36 420 := fl_j fl_d82 fl_c83 rfl rfl
theorem fl_d84 : fl_P 36 425 := fl_j fl_d83 fl_c84 rfl rfl
theorem fl_d85 : fl_P 36 430 := fl_j fl_d84 fl_c85 rfl rfl
theorem fl_d86 : fl_P 36 435 := fl_j fl_d85 fl_c86 rfl rfl
theorem fl_d87 : fl_P 36 440 := fl_j fl_d86 fl_c87 rfl rfl
theorem fl_d88 : fl_P 36 445 := fl_j fl_d87 fl_c88 rfl rfl
theorem fl_d89 : fl_P 36 450 := fl_j fl_d88 fl_c89 rfl rfl
theorem fl_d90 : fl_P 36 455 := fl_j fl_d89 fl_c90 rfl rfl
theorem fl_d91 : fl_P 36 460 := fl_j fl_d90 fl_c91 rfl rfl
theorem fl_d92 : fl_P 36 465 := fl_j fl_d91 fl_c92 rfl rfl
theorem fl_d93 : fl_P 36 470 := fl_j fl_d92 fl_c93 rfl rfl
theorem fl_d94 : fl_P 36 475 := fl_j fl_d93 fl_c94 rfl rfl
theorem fl_d95 : fl_P 36 480 := fl_j fl_d94 fl_c95 rfl rfl
theorem fl_d96 : fl_P 36 485 := fl_j fl_d95 fl_c96 rfl rfl
theorem fl_d97 : fl_P 36 490 := fl_j fl_d96 fl_c97 rfl rfl
theorem fl_d98 : fl_P 36 495 := fl_j fl_d97 fl_c98 rfl rfl
theorem fl_d99 : fl_P 36 500 := fl_j fl_d98 fl_c99 rfl rfl
theorem fl_d100 : fl_P 36 505 := fl_j fl_d99 fl_c100 rfl rfl
theorem fl_d101 : fl_P 36 510 := fl_j fl_d100 fl_c101 rfl rfl
theorem fl_d102 : fl_P 36 515 := fl_j fl_d101 fl_c102 rfl rfl
theorem fl_d103 : fl_P 36 520 := fl_j fl_d102 fl_c103 rfl rfl
theorem fl_d104 : fl_P 36 525 := fl_j fl_d103 fl_c104 rfl rfl
theorem fl_d105 : fl_P 36 530 := fl_j fl_d104 fl_c105 rfl rfl
theorem fl_d106 : fl_P 36 535 := fl_j fl_d105 fl_c106 rfl rfl
theorem fl_d107 : fl_P 36 540 := fl_j fl_d106 fl_c107 rfl rfl
theorem fl_d108 : fl_P 36 545 := fl_j fl_d107 fl_c108 rfl rfl
theorem fl_d109 : fl_P 36 550 := fl_j fl_d108 fl_c109 rfl rfl
theorem fl_d110 : fl_P 36 555 := fl_j fl_d109 fl_c110 rfl rfl
theorem fl_d111 : fl_P 36 560 := fl_j fl_d110 fl_c111 rfl rfl
theorem fl_d112 : fl_P 36 565 := fl_j fl_d111 fl_c112 rfl rfl
theorem fl_d113 : fl_P 36 570 := fl_j fl_d112 fl_c113 rfl rfl
theorem fl_d114 : fl_P 36 575 := fl_j fl_d113 fl_c114 rfl rfl
theorem fl_d115 : fl_P 36 580 := fl_j fl_d114 fl_c115 rfl rfl
theorem fl_d116 : fl_P 36 585 := fl_j fl_d115 fl_c116 rfl rfl
theorem fl_d117 : fl_P 36 590 := fl_j fl_d116 fl_c117 rfl rfl
theorem fl_d118 : fl_P 36 595 := fl_j fl_d117 fl_c118 rfl rfl
theorem fl_d119 : fl_P 36 600 := fl_j fl_d118 fl_c119 rfl rfl
theorem fl_d120 : fl_P 36 605 := fl_j fl_d119 fl_c120 rfl rfl
theorem fl_d121 : fl_P 36 610 := fl_j fl_d120 fl_c121 rfl rfl
theorem fl_d122 : fl_P 36 615 := fl_j fl_d121 fl_c122 rfl rfl
theorem fl_d123 : fl_P 36 620 := fl_j fl_d122 fl_c123 rfl rfl
theorem fl_d124 : fl_P 36 625 := fl_j fl_d123 fl_c124 rfl rfl
theorem fl_d125 : fl_P 36 630 := fl_j fl_d124 fl_c125 rfl rfl
theorem fl_d126 : fl_P 36 635 := fl_j fl_d125 fl_c126 rfl rfl
theorem fl_d127 : fl_P 36 640 := fl_j fl_d126 fl_c127 rfl rfl
theorem fl_d128 : fl_P 36 645 := fl_j fl_d127 fl_c128 rfl rfl
theorem fl_d129 : fl_P 36 650 := fl_j fl_d128 fl_c129 rfl rfl
theorem fl_d130 : fl_P 36 655 := fl_j fl_d129 fl_c130 rfl rfl
theorem fl_d131 : fl_P 36 660 := fl_j fl_d130 fl_c131 rfl rfl
theorem fl_d132 : fl_P 36 665 := fl_j fl_d131 fl_c132 rfl rfl
theorem fl_d133 : fl_P 36 670 := fl_j fl_d132 fl_c133 rfl rfl
theorem fl_d134 : fl_P 36 675 := fl_j fl_d133 fl_c134 rfl rfl
theorem fl_d135 : fl_P 36 680 := fl_j fl_d134 fl_c135 rfl rfl
theorem fl_d136 : fl_P 36 685 := fl_j fl_d135 fl_c136 rfl rfl
theorem fl_d137 : fl_P 36 690 := fl_j fl_d136 fl_c137 rfl rfl
theorem fl_d138 : fl_P 36 693 := fl_j fl_d137 fl_c138 rfl rfl
theorem fl_all {b f : Nat} (h1 : 36 ≤ b) (h2 : b ≤ 728) (h3 : 1 ≤ f) (h4 : f ≤ 16) : fl_g b f = true := by
  have := fl_d138 (b - 36) (by omega) (f - 1) (by omega)
  rwa [show b - 36 + 36 = b by omega, show f - 1 + 1 = f by omega] at this
theorem p_bitsForEach {M D K N Q R F : Nat} {ks : FI} {t1 : FJ} {r1 m1 : FI} {n1 : FJ} {t2 : FJ} {r2 m2 : FI} {n2 : FJ} {row : FI} {num : FJ} (h0 : RS 0 (nI M) (nI D) (nI K) (nI N) (nI Q) (nI R) (nI F) ks t1 r1 m1 n1 t2 r2 m2 n2 row num) (hn : SOKn M D K N Q R F ks t1 r1 m1 n1 t2 r2 m2 n2) : ∃ r, f_CB_bitsForEach 200 (nI M) (nI D) (nI N) (nI F) = some r ∧ f_Model_bitsForEach row = some r := by
  obtain ⟨⟨e0, e1, e2, e3, e4, e5, e6⟩, _, _, _, _, _⟩ := RS0_out h0
  obtain ⟨s1, s2, s3, s4, s5, s6, s7, _⟩ := hn
  have hb : f_Model_bits row = f_CB_bits (nI M) (nI D) (nI N) := p_bits e0 e1 e3
  have eb : f_CB_bits (nI M) (nI D) (nI N) = some (nI (M * (D + 1) + 32 * N)) := by
    unfold f_CB_bits
    rw [nI_1, pk_mul, cx_m32, nI_add]
  have l1 : M * (D + 1) ≤ 24 * 9 := Nat.mul_le_mul s1.2 (by omega)
  have l2 : 2 * 2 ≤ M * (D + 1) := Nat.mul_le_mul s1.1 (by omega)
  unfold f_CB_bitsForEach f_Model_bitsForEach
  rw [if_pos (show ck 6 1002 = true from rfl), cx_n6, e6, hb, eb]
  by_cases hF : F = 0
  · subst hF
    exact ⟨-1, rfl, rfl⟩
  · have g := fl_all (b := M * (D + 1) + 32 * N) (f := F) (by omega) (by omega) (by omega) s7
    unfold fl_g at g
    rw [Bool.and_eq_true, Bool.and_eq_true, decide_eq_true_eq, decide_eq_true_eq] at g
    obtain ⟨⟨g1, g2⟩, g3⟩ := g
    obtain ⟨r, hr⟩ := Option.isSome_iff_exists.mp g3
    rw [if_neg (nI_nle (by omega) (by omega)), if_neg (nI_ne0 (by omega) (by omega)), cx_ob, cx_ob, if_pos g1, if_pos (show ck 6 1002 = true from rfl), if_pos g1, g2, hr]
    exact ⟨r, rfl, rfl⟩
theorem st28 : ST28 INV := by
  intro v_now_form_counters v_now_form_bits v_now_form_functions v_now_form_countersAbove v_now_form_functionsAbove v_now_form_rounds v_now_flows v_now_keys v_now_first_truths v_now_first_rests v_now_first_marks v_now_first_numbers v_now_second_truths v_now_second_rests v_now_second_marks v_now_second_numbers v_history v_text_codes v_text_length v_text_itemKeys v_text_itemCounts v_text_items v_text_newFlows v_text_at v_decoder_overflows_least v_decoder_overflows_greatest v_decoder_overflows_lowerSums v_decoder_overflows_upperSums v_decoder_overflows_lower v_decoder_overflows_upper v_decoder_overflows_places v_decoder_overflows_placeCounts v_decoder_overflows_things v_decoder_amounts_least v_decoder_amounts_greatest v_decoder_amounts_lowerSums v_decoder_amounts_upperSums v_decoder_amounts_lower v_decoder_amounts_upper v_decoder_amounts_places v_decoder_amounts_placeCounts v_decoder_amounts_things v_trial_form_counters v_trial_form_bits v_trial_form_functions v_trial_form_countersAbove v_trial_form_functionsAbove v_trial_form_rounds v_trial_flows v_trial_keys v_trial_first_truths v_trial_first_rests v_trial_first_marks v_trial_first_numbers v_trial_second_truths v_trial_second_rests v_trial_second_marks v_trial_second_numbers mv_row mv_number mv_saved mv_place mv_low mv_high mv_lowBefore mv_highBefore mv_least mv_greatest mv_things mv_changing mv_overLow mv_overHigh mv_text mv_length mv_at mv_readKey mv_readCount mv_keys mv_h hI
  obtain ⟨M, D, K, N, Q, R, F, rfl, rfl, rfl, rfl, rfl, rfl, rfl, hn⟩ := sok_out hI.1.2
  obtain ⟨r, e1, e2⟩ := p_bitsForEach hI.1.1 hn
  exact ⟨200, r, r, e1, e2, rfl, hI⟩
