/-- what a call that changes the state leaves, on both sides -/
def OUTP {α : Type} (o1 : Option (α × StateS × HistoryS)) (o2 : Option (α × FI × FJ × Int32)) : Prop := ∃ (out1 : α × StateS × HistoryS) (out2 : α × FI × FJ × Int32), o1 = some out1 ∧ o2 = some out2 ∧ out1.1 = out2.1 ∧ (RSs 0 out1.2.1 out2.2.1 out2.2.2.1 ∧ SOKs out1.2.1) ∧ HR out1.2.2 out2.2.2.2 out2.2.1 out2.2.2.1
theorem OUTP_same {α : Type} {x : α} {M D K N Q R F : Nat} {ks : FI} {t1 : FJ} {r1 m1 : FI} {n1 : FJ} {t2 : FJ} {r2 m2 : FI} {n2 : FJ} {h : HistoryS} {saved : Int32} {row : FI} {num : FJ} (h0 : RS 0 (nI M) (nI D) (nI K) (nI N) (nI Q) (nI R) (nI F) ks t1 r1 m1 n1 t2 r2 m2 n2 row num) (hn : SOKn M D K N Q R F ks t1 r1 m1 n1 t2 r2 m2 n2) (H : HR h saved row num) : OUTP (some (x, ((((((nI M, nI D), nI K), ((nI N, nI Q), nI R)), nI F), ks), (((t1, r1), (m1, n1)), ((t2, r2), (m2, n2)))), h)) (some (x, row, num, saved)) :=
  ⟨_, _, rfl, rfl, rfl, ⟨h0, sok_in hn⟩, H⟩
/-- both braids emptied, the form changed -/
theorem p_emptied {M' D' K' N' Q' : Nat} {M D K N Q R F : Nat} {ks : FI} {t1 : FJ} {r1 m1 : FI} {n1 : FJ} {t2 : FJ} {r2 m2 : FI} {n2 : FJ} {h : HistoryS} {saved : Int32} {row : FI} {num : FJ} {R0 : FI} (h0 : RS 0 (nI M) (nI D) (nI K) (nI N) (nI Q) (nI R) (nI F) ks t1 r1 m1 n1 t2 r2 m2 n2 row num) (hn : SOKn M D K N Q R F ks t1 r1 m1 n1 t2 r2 m2 n2) (H : HR h saved row num) (q1 : 2 ≤ M' ∧ M' ≤ 24) (q2 : 1 ≤ D' ∧ D' ≤ 8) (q3 : 1 ≤ K' ∧ K' ≤ 4) (q4 : 1 ≤ N' ∧ N' ≤ 16) (q5 : 1 ≤ Q' ∧ Q' ≤ 3) (f0 : R0 0 = nI M') (f1 : R0 1 = nI D') (f2 : R0 2 = nI K') (f3 : R0 3 = nI N') (f4 : R0 4 = nI Q') (fx : ∀ y, 5 ≤ y → R0 y = row y) :
    ∃ (ra : FI) (na : FJ) (rb : FI) (nb : FJ), f_Model_empties 200 0 R0 num = some (ra, na) ∧ f_Model_empties 200 1 ra na = some (rb, nb) ∧ RS 0 (nI M') (nI D') (nI K') (nI N') (nI Q') (nI R) (nI F) ks (fun _ => 0) (fun _ => 0) (fun _ => 0) (fun _ => 0) (fun _ => 0) (fun _ => 0) (fun _ => 0) (fun _ => 0) rb nb ∧ SOK (nI M') (nI D') (nI K') (nI N') (nI Q') (nI R) (nI F) ks (fun _ => 0) (fun _ => 0) (fun _ => 0) (fun _ => 0) (fun _ => 0) (fun _ => 0) (fun _ => 0) (fun _ => 0) ∧ HR h saved rb nb := by
  obtain ⟨d0, dk, d1, d2, d3, d4⟩ := RS0_out h0
  obtain ⟨ra, na, e1, e2, e3⟩ := cx_empties (b := 0) (by omega) R0 num
  obtain ⟨rb, nb, e4, e5, e6⟩ := cx_empties (b := 1) (by omega) ra na
  have u : ∀ y, ¬ (23 ≤ y ∧ y < 119) → rb y = R0 y := fun y hy => by rw [e5, if_neg (by omega), e2, if_neg (by omega)]
  have z : ∀ y, 23 ≤ y → y < 119 → rb y = 0 := fun y h1 h2 => by
    rw [e5]
    by_cases q : 23 + 48 * 1 ≤ y ∧ y < 23 + 48 * 1 + 48
    · rw [if_pos q]
    · rw [if_neg q, e2, if_pos (by omega)]
  have w : ∀ y, y < 64 → nb y = 0 := fun y h2 => by
    rw [e6]
    by_cases q : 32 * 1 ≤ y ∧ y < 32 * 1 + 32
    · rw [if_pos q]
    · rw [if_neg q, e3, if_pos (by omega)]
  have wx : ∀ y, 64 ≤ y → nb y = num y := fun y h2 => by rw [e6, if_neg (by omega), e3, if_neg (by omega)]
  obtain ⟨s1, s2, s3, s4, s5, s6, s7, s8, s9, s10, s11, s12, s13⟩ := hn
  refine ⟨ra, na, rb, nb, e1, e4, RS0_mk ⟨(u 0 (by omega)).trans f0, (u 1 (by omega)).trans f1, (u 2 (by omega)).trans f2, (u 3 (by omega)).trans f3, (u 4 (by omega)).trans f4, (u 5 (by omega)).trans ((fx 5 (by omega)).trans d0.2.2.2.2.2.1), (u 6 (by omega)).trans ((fx 6 (by omega)).trans d0.2.2.2.2.2.2)⟩ (fun f hf => (u _ (by omega)).trans ((fx _ (by omega)).trans (dk f hf)))
    (fun c hc => ⟨z _ (by omega) (by omega), z _ (by omega) (by omega)⟩) (fun c hc => ⟨z _ (by omega) (by omega), z _ (by omega) (by omega)⟩) (fun f hf => ⟨w _ (by omega), w _ (by omega)⟩) (fun f hf => ⟨w _ (by omega), w _ (by omega)⟩),
    sok_in ⟨q1, q2, q3, q4, q5, s6, s7, s8, s9, fun f hf => ⟨0, 0, by omega, by omega, rfl, rfl⟩, fun f hf _ => ⟨rfl, rfl⟩, sem0, sem0⟩, HR_frame H (fun x hx => (u x (by omega)).trans (fx x (by omega))) (fun x hx => wx x (by omega))⟩
theorem p_setFirst (y1 y2 y3 : Int32) {M D K N Q R F : Nat} {ks : FI} {t1 : FJ} {r1 m1 : FI} {n1 : FJ} {t2 : FJ} {r2 m2 : FI} {n2 : FJ} {h : HistoryS} {saved : Int32} {row : FI} {num : FJ} (h0 : RS 0 (nI M) (nI D) (nI K) (nI N) (nI Q) (nI R) (nI F) ks t1 r1 m1 n1 t2 r2 m2 n2 row num) (hn : SOKn M D K N Q R F ks t1 r1 m1 n1 t2 r2 m2 n2) (H : HR h saved row num) : OUTP (f_CB_setFirst y1 y2 y3 ((((((nI M, nI D), nI K), ((nI N, nI Q), nI R)), nI F), ks), (((t1, r1), (m1, n1)), ((t2, r2), (m2, n2)))) h) (f_Model_setFirst 200 y1 y2 y3 row num saved) := by
  unfold f_CB_setFirst f_Model_setFirst
  simp only [p_from, p_in, cx_ob]
  by_cases c1 : (2 : Int32) ≤ y1 ∧ y1 ≤ 24
  · by_cases c2 : (1 : Int32) ≤ y2 ∧ y2 ≤ 8
    · by_cases c3 : (1 : Int32) ≤ y3 ∧ y3 ≤ 4
      · simp only [if_pos c1, if_pos c2, if_pos c3, cx_i10, if_false]
        obtain ⟨M', a1, b1, rfl⟩ := i32_nat (p := 2) (q := 24) rfl rfl c1 (by omega)
        obtain ⟨D', a2, b2, rfl⟩ := i32_nat (p := 1) (q := 8) rfl rfl c2 (by omega)
        obtain ⟨K', a3, b3, rfl⟩ := i32_nat (p := 1) (q := 4) rfl rfl c3 (by omega)
        obtain ⟨h', row', num', sv, g1, g2, g3, g4, g5, g6⟩ := p_push (s := ((((((nI M, nI D), nI K), ((nI N, nI Q), nI R)), nI F), ks), (((t1, r1), (m1, n1)), ((t2, r2), (m2, n2))))) h0 (sok_in hn) H
        simp only [g1, g2, cx_ob, cx_c0, cx_c1, cx_c2, if_true, cx_n0, cx_n1, cx_n2]
        obtain ⟨d0, dk, d1, d2, d3, d4⟩ := RS0_out (show RS 0 (nI M) (nI D) (nI K) (nI N) (nI Q) (nI R) (nI F) ks t1 r1 m1 n1 t2 r2 m2 n2 row' num' from g6)
        obtain ⟨ra, na, rb, nb, e1, e2, e3, e4, e5⟩ := p_emptied (R0 := upd (upd (upd row' 0 (nI M')) 1 (nI D')) 2 (nI K')) (show RS 0 (nI M) (nI D) (nI K) (nI N) (nI Q) (nI R) (nI F) ks t1 r1 m1 n1 t2 r2 m2 n2 row' num' from g6) hn g3 ⟨a1, b1⟩ ⟨a2, b2⟩ ⟨a3, b3⟩ hn.2.2.2.1 hn.2.2.2.2.1 rfl rfl rfl ((pk_un (by omega)).trans ((pk_un (by omega)).trans ((pk_un (by omega)).trans d0.2.2.2.1))) ((pk_un (by omega)).trans ((pk_un (by omega)).trans ((pk_un (by omega)).trans d0.2.2.2.2.1))) (fun y hy => (pk_un (by omega)).trans ((pk_un (by omega)).trans (pk_un (by omega))))
        simp only [e1, e2, cx_ob]
        exact ⟨_, _, rfl, rfl, d0.1.symm, ⟨e3, e4⟩, e5⟩
      · simp only [if_pos c1, if_pos c2, if_neg c3, cx_i10, if_false, if_true, eq_self]
        exact OUTP_same h0 hn H
    · simp only [if_pos c1, if_neg c2, cx_i10, if_false, if_true, eq_self]
      exact OUTP_same h0 hn H
  · simp only [if_neg c1, cx_i10, if_false, if_true, eq_self]
    exact OUTP_same h0 hn H
theorem p_setSecond (y1 y2 : Int32) {M D K N Q R F : Nat} {ks : FI} {t1 : FJ} {r1 m1 : FI} {n1 : FJ} {t2 : FJ} {r2 m2 : FI} {n2 : FJ} {h : HistoryS} {saved : Int32} {row : FI} {num : FJ} (h0 : RS 0 (nI M) (nI D) (nI K) (nI N) (nI Q) (nI R) (nI F) ks t1 r1 m1 n1 t2 r2 m2 n2 row num) (hn : SOKn M D K N Q R F ks t1 r1 m1 n1 t2 r2 m2 n2) (H : HR h saved row num) : OUTP (f_CB_setSecond y1 y2 ((((((nI M, nI D), nI K), ((nI N, nI Q), nI R)), nI F), ks), (((t1, r1), (m1, n1)), ((t2, r2), (m2, n2)))) h) (f_Model_setSecond 200 y1 y2 row num saved) := by
  unfold f_CB_setSecond f_Model_setSecond
  simp only [p_from, p_in, cx_ob]
  by_cases c1 : (1 : Int32) ≤ y1 ∧ y1 ≤ 16
  · by_cases c2 : (1 : Int32) ≤ y2 ∧ y2 ≤ 3
    · simp only [if_pos c1, if_pos c2, cx_i10, if_false]
      obtain ⟨N', a1, b1, rfl⟩ := i32_nat (p := 1) (q := 16) rfl rfl c1 (by omega)
      obtain ⟨Q', a2, b2, rfl⟩ := i32_nat (p := 1) (q := 3) rfl rfl c2 (by omega)
      obtain ⟨h', row', num', sv, g1, g2, g3, g4, g5, g6⟩ := p_push (s := ((((((nI M, nI D), nI K), ((nI N, nI Q), nI R)), nI F), ks), (((t1, r1), (m1, n1)), ((t2, r2), (m2, n2))))) h0 (sok_in hn) H
      simp only [g1, g2, cx_ob, cx_c3, cx_c4, if_true, cx_n3, cx_n4]
      obtain ⟨d0, dk, d1, d2, d3, d4⟩ := RS0_out (show RS 0 (nI M) (nI D) (nI K) (nI N) (nI Q) (nI R) (nI F) ks t1 r1 m1 n1 t2 r2 m2 n2 row' num' from g6)
      obtain ⟨ra, na, rb, nb, e1, e2, e3, e4, e5⟩ := p_emptied (R0 := upd (upd row' 3 (nI N')) 4 (nI Q')) (show RS 0 (nI M) (nI D) (nI K) (nI N) (nI Q) (nI R) (nI F) ks t1 r1 m1 n1 t2 r2 m2 n2 row' num' from g6) hn g3 hn.1 hn.2.1 hn.2.2.1 ⟨a1, b1⟩ ⟨a2, b2⟩ ((pk_un (by omega)).trans ((pk_un (by omega)).trans d0.1)) ((pk_un (by omega)).trans ((pk_un (by omega)).trans d0.2.1)) ((pk_un (by omega)).trans ((pk_un (by omega)).trans d0.2.2.1)) rfl rfl (fun y hy => (pk_un (by omega)).trans (pk_un (by omega)))
      simp only [e1, e2, cx_ob]
      exact ⟨_, _, rfl, rfl, d0.2.2.2.1.symm, ⟨e3, e4⟩, e5⟩
    · simp only [if_pos c1, if_neg c2, cx_i10, if_false, if_true, eq_self]
      exact OUTP_same h0 hn H
  · simp only [if_neg c1, cx_i10, if_false, if_true, eq_self]
    exact OUTP_same h0 hn H
theorem p_setRounds (y1 : Int32) {M D K N Q R F : Nat} {ks : FI} {t1 : FJ} {r1 m1 : FI} {n1 : FJ} {t2 : FJ} {r2 m2 : FI} {n2 : FJ} {h : HistoryS} {saved : Int32} {row : FI} {num : FJ} (h0 : RS 0 (nI M) (nI D) (nI K) (nI N) (nI Q) (nI R) (nI F) ks t1 r1 m1 n1 t2 r2 m2 n2 row num) (hn : SOKn M D K N Q R F ks t1 r1 m1 n1 t2 r2 m2 n2) (H : HR h saved row num) : OUTP (f_CB_setRounds y1 ((((((nI M, nI D), nI K), ((nI N, nI Q), nI R)), nI F), ks), (((t1, r1), (m1, n1)), ((t2, r2), (m2, n2)))) h) (f_Model_setRounds 200 y1 row num saved) := by
  unfold f_CB_setRounds f_Model_setRounds
  simp only [p_from, p_in, cx_ob]
  by_cases c1 : (0 : Int32) ≤ y1 ∧ y1 ≤ 60
  · simp only [if_pos c1, cx_i10, if_false]
    obtain ⟨R', a1, b1, rfl⟩ := i32_nat (p := 0) (q := 60) rfl rfl c1 (by omega)
    obtain ⟨h', row', num', sv, g1, g2, g3, g4, g5, g6⟩ := p_push (s := ((((((nI M, nI D), nI K), ((nI N, nI Q), nI R)), nI F), ks), (((t1, r1), (m1, n1)), ((t2, r2), (m2, n2))))) h0 (sok_in hn) H
    simp only [g1, g2, cx_ob, cx_c5, if_true, cx_n5]
    obtain ⟨d0, dk, d1, d2, d3, d4⟩ := RS0_out (show RS 0 (nI M) (nI D) (nI K) (nI N) (nI Q) (nI R) (nI F) ks t1 r1 m1 n1 t2 r2 m2 n2 row' num' from g6)
    obtain ⟨s1, s2, s3, s4, s5, s6, s7⟩ := hn
    have E : ∀ y, y ≠ 5 → upd row' 5 (nI R') y = row' y := fun y hy => pk_un hy
    refine ⟨_, _, rfl, rfl, d0.2.2.2.2.2.1.symm, ⟨RS0_mk ⟨(E _ (by omega)).trans d0.1, (E _ (by omega)).trans d0.2.1, (E _ (by omega)).trans d0.2.2.1, (E _ (by omega)).trans d0.2.2.2.1, (E _ (by omega)).trans d0.2.2.2.2.1, (show upd row' 5 (nI R') 5 = nI R' from pk_us), (E _ (by omega)).trans d0.2.2.2.2.2.2⟩ (fun f hf => (E _ (by omega)).trans (dk f hf)) (fun c hc => ⟨(E _ (by omega)).trans (d1 c hc).1, (E _ (by omega)).trans (d1 c hc).2⟩) (fun c hc => ⟨(E _ (by omega)).trans (d2 c hc).1, (E _ (by omega)).trans (d2 c hc).2⟩) d3 d4, sok_in ⟨s1, s2, s3, s4, s5, b1, s7⟩⟩, HR_frame g3 (fun x hx => E _ (by omega)) (fun x hx => rfl)⟩
  · simp only [if_neg c1, if_true, eq_self]
    exact OUTP_same h0 hn H
theorem st0 : ST0 INV := by
  intro v_now_form_counters v_now_form_bits v_now_form_functions v_now_form_countersAbove v_now_form_functionsAbove v_now_form_rounds v_now_flows v_now_keys v_now_first_truths v_now_first_rests v_now_first_marks v_now_first_numbers v_now_second_truths v_now_second_rests v_now_second_marks v_now_second_numbers v_history v_text_codes v_text_length v_text_itemKeys v_text_itemCounts v_text_items v_text_newFlows v_text_at v_decoder_overflows_least v_decoder_overflows_greatest v_decoder_overflows_lowerSums v_decoder_overflows_upperSums v_decoder_overflows_lower v_decoder_overflows_upper v_decoder_overflows_places v_decoder_overflows_placeCounts v_decoder_overflows_things v_decoder_amounts_least v_decoder_amounts_greatest v_decoder_amounts_lowerSums v_decoder_amounts_upperSums v_decoder_amounts_lower v_decoder_amounts_upper v_decoder_amounts_places v_decoder_amounts_placeCounts v_decoder_amounts_things v_trial_form_counters v_trial_form_bits v_trial_form_functions v_trial_form_countersAbove v_trial_form_functionsAbove v_trial_form_rounds v_trial_flows v_trial_keys v_trial_first_truths v_trial_first_rests v_trial_first_marks v_trial_first_numbers v_trial_second_truths v_trial_second_rests v_trial_second_marks v_trial_second_numbers mv_row mv_number mv_saved mv_place mv_low mv_high mv_lowBefore mv_highBefore mv_least mv_greatest mv_things mv_changing mv_overLow mv_overHigh mv_text mv_length mv_at mv_readKey mv_readCount mv_keys mv_h hI y1 y2 y3
  obtain ⟨M, D, K, N, Q, R, F, rfl, rfl, rfl, rfl, rfl, rfl, rfl, hn⟩ := sok_out hI.1.2
  obtain ⟨out1, out2, e1, e2, e3, e4, e5⟩ := p_setFirst y1 y2 y3 hI.1.1 hn hI.2.1
  exact ⟨200, out1, out2, e1, e2, e3, e4, e5, hI.2.2⟩
theorem st1 : ST1 INV := by
  intro v_now_form_counters v_now_form_bits v_now_form_functions v_now_form_countersAbove v_now_form_functionsAbove v_now_form_rounds v_now_flows v_now_keys v_now_first_truths v_now_first_rests v_now_first_marks v_now_first_numbers v_now_second_truths v_now_second_rests v_now_second_marks v_now_second_numbers v_history v_text_codes v_text_length v_text_itemKeys v_text_itemCounts v_text_items v_text_newFlows v_text_at v_decoder_overflows_least v_decoder_overflows_greatest v_decoder_overflows_lowerSums v_decoder_overflows_upperSums v_decoder_overflows_lower v_decoder_overflows_upper v_decoder_overflows_places v_decoder_overflows_placeCounts v_decoder_overflows_things v_decoder_amounts_least v_decoder_amounts_greatest v_decoder_amounts_lowerSums v_decoder_amounts_upperSums v_decoder_amounts_lower v_decoder_amounts_upper v_decoder_amounts_places v_decoder_amounts_placeCounts v_decoder_amounts_things v_trial_form_counters v_trial_form_bits v_trial_form_functions v_trial_form_countersAbove v_trial_form_functionsAbove v_trial_form_rounds v_trial_flows v_trial_keys v_trial_first_truths v_trial_first_rests v_trial_first_marks v_trial_first_numbers v_trial_second_truths v_trial_second_rests v_trial_second_marks v_trial_second_numbers mv_row mv_number mv_saved mv_place mv_low mv_high mv_lowBefore mv_highBefore mv_least mv_greatest mv_things mv_changing mv_overLow mv_overHigh mv_text mv_length mv_at mv_readKey mv_readCount mv_keys mv_h hI y1 y2
  obtain ⟨M, D, K, N, Q, R, F, rfl, rfl, rfl, rfl, rfl, rfl, rfl, hn⟩ := sok_out hI.1.2
  obtain ⟨out1, out2, e1, e2, e3, e4, e5⟩ := p_setSecond y1 y2 hI.1.1 hn hI.2.1
  exact ⟨200, out1, out2, e1, e2, e3, e4, e5, hI.2.2⟩
theorem st2 : ST2 INV := by
  intro v_now_form_counters v_now_form_bits v_now_form_functions v_now_form_countersAbove v_now_form_functionsAbove v_now_form_rounds v_now_flows v_now_keys v_now_first_truths v_now_first_rests v_now_first_marks v_now_first_numbers v_now_second_truths v_now_second_rests v_now_second_marks v_now_second_numbers v_history v_text_codes v_text_length v_text_itemKeys v_text_itemCounts v_text_items v_text_newFlows v_text_at v_decoder_overflows_least v_decoder_overflows_greatest v_decoder_overflows_lowerSums v_decoder_overflows_upperSums v_decoder_overflows_lower v_decoder_overflows_upper v_decoder_overflows_places v_decoder_overflows_placeCounts v_decoder_overflows_things v_decoder_amounts_least v_decoder_amounts_greatest v_decoder_amounts_lowerSums v_decoder_amounts_upperSums v_decoder_amounts_lower v_decoder_amounts_upper v_decoder_amounts_places v_decoder_amounts_placeCounts v_decoder_amounts_things v_trial_form_counters v_trial_form_bits v_trial_form_functions v_trial_form_countersAbove v_trial_form_functionsAbove v_trial_form_rounds v_trial_flows v_trial_keys v_trial_first_truths v_trial_first_rests v_trial_first_marks v_trial_first_numbers v_trial_second_truths v_trial_second_rests v_trial_second_marks v_trial_second_numbers mv_row mv_number mv_saved mv_place mv_low mv_high mv_lowBefore mv_highBefore mv_least mv_greatest mv_things mv_changing mv_overLow mv_overHigh mv_text mv_length mv_at mv_readKey mv_readCount mv_keys mv_h hI y1
  obtain ⟨M, D, K, N, Q, R, F, rfl, rfl, rfl, rfl, rfl, rfl, rfl, hn⟩ := sok_out hI.1.2
  obtain ⟨out1, out2, e1, e2, e3, e4, e5⟩ := p_setRounds y1 hI.1.1 hn hI.2.1
  exact ⟨200, out1, out2, e1, e2, e3, e4, e5, hI.2.2⟩
theorem st29 : ST29 INV := by
  intro v_now_form_counters v_now_form_bits v_now_form_functions v_now_form_countersAbove v_now_form_functionsAbove v_now_form_rounds v_now_flows v_now_keys v_now_first_truths v_now_first_rests v_now_first_marks v_now_first_numbers v_now_second_truths v_now_second_rests v_now_second_marks v_now_second_numbers v_history v_text_codes v_text_length v_text_itemKeys v_text_itemCounts v_text_items v_text_newFlows v_text_at v_decoder_overflows_least v_decoder_overflows_greatest v_decoder_overflows_lowerSums v_decoder_overflows_upperSums v_decoder_overflows_lower v_decoder_overflows_upper v_decoder_overflows_places v_decoder_overflows_placeCounts v_decoder_overflows_things v_decoder_amounts_least v_decoder_amounts_greatest v_decoder_amounts_lowerSums v_decoder_amounts_upperSums v_decoder_amounts_lower v_decoder_amounts_upper v_decoder_amounts_places v_decoder_amounts_placeCounts v_decoder_amounts_things v_trial_form_counters v_trial_form_bits v_trial_form_functions v_trial_form_countersAbove v_trial_form_functionsAbove v_trial_form_rounds v_trial_flows v_trial_keys v_trial_first_truths v_trial_first_rests v_trial_first_marks v_trial_first_numbers v_trial_second_truths v_trial_second_rests v_trial_second_marks v_trial_second_numbers mv_row mv_number mv_saved mv_place mv_low mv_high mv_lowBefore mv_highBefore mv_least mv_greatest mv_things mv_changing mv_overLow mv_overHigh mv_text mv_length mv_at mv_readKey mv_readCount mv_keys mv_h hI
  obtain ⟨out1, out2, e1, e2, e3, e4, e5⟩ := p_undo (s := ((((((v_now_form_counters, v_now_form_bits), v_now_form_functions), ((v_now_form_countersAbove, v_now_form_functionsAbove), v_now_form_rounds)), v_now_flows), v_now_keys), (((v_now_first_truths, v_now_first_rests), (v_now_first_marks, v_now_first_numbers)), ((v_now_second_truths, v_now_second_rests), (v_now_second_marks, v_now_second_numbers))))) hI.1.1 hI.1.2 hI.2.1
  exact ⟨200, out1, out2, e1, e2, e3, e4, e5, hI.2.2⟩
