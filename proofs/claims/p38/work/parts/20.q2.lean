/-! the calls that change an object -/
theorem q_push {h : HistoryS} {st : StateS} (H : HK h) : ∃ (h' : HistoryS) (n : Nat), f_History_push h st = some h' ∧ n < 5 ∧ h'.2.2.2.2.2 = nI (n + 1) ∧ hslot h' n = st := by
  obtain ⟨n, hn, e⟩ := H
  unfold f_History_push
  by_cases z : n < 5
  · rw [e, if_pos (cx_T5 z)]
    obtain ⟨h', g1, g2, g3, -⟩ := cx_hput (h := h) (q := st) z e
    exact ⟨h', n, g1, z, g2, g3⟩
  · obtain rfl : n = 5 := by omega
    rw [e, if_neg (show ¬ nI 5 < (5 : Int32) by decide)]
    obtain ⟨h', g1, g2, g3, -⟩ := cx_hput (h := f_History_dropOldest h) (q := st) (n := 4) (by omega) rfl
    exact ⟨h', 4, g1, by omega, g2, g3⟩
theorem q_pop {h : HistoryS} {q st : StateS} {n : Nat} (hn : n < 5) (e : h.2.2.2.2.2 = nI (n + 1)) (es : hslot h n = st) : ∃ h' : HistoryS, f_History_pop h q = some (nI n, h', st) ∧ h'.2.2.2.2.2 = nI n := by
  unfold f_History_pop
  rw [e, if_pos (show (1 : Int32) ≤ nI (n + 1) from nI_le (a := 1) (by omega) (by omega)), nI_pred]
  unfold hget
  subst es
  rcases (show n = 0 ∨ n = 1 ∨ n = 2 ∨ n = 3 ∨ n = 4 by omega) with rfl | rfl | rfl | rfl | rfl
  · exact ⟨_, rfl, rfl⟩
  · exact ⟨_, rfl, rfl⟩
  · exact ⟨_, rfl, rfl⟩
  · exact ⟨_, rfl, rfl⟩
  · exact ⟨_, rfl, rfl⟩
section QW
variable {M D K N Q R F : Nat} {ks : FI} {t1 t2 : FJ} {s : CBS}
theorem q_undo {st : StateS} {n : Nat} (hn : n < 5) (e : s.1.1.2.2.2.2.2.2 = nI (n + 1)) (es : hslot s.1.1.2 n = st) : ∃ s' : CBS, f_W_undo 200 s = some (nI n, s') ∧ s'.1.1.1 = st ∧ HK s'.1.1.2 := by
  obtain ⟨h', g1, g2⟩ := q_pop (q := s.1.1.1) hn e es
  unfold f_W_undo f_CB_undo
  rw [g1, cx_ob, cx_ob]
  exact ⟨_, rfl, rfl, n, by omega, g2⟩
theorem q_undo_empty (e : s.1.1.2.2.2.2.2.2 = 0) : ∃ s' : CBS, f_W_undo 200 s = some (-4, s') ∧ s'.1 = s.1 := by
  unfold f_W_undo f_CB_undo f_History_pop
  rw [e, if_neg (show ¬ (1 : Int32) ≤ 0 by decide), cx_ob, cx_ob]
  exact ⟨_, rfl, rfl⟩
theorem q_load (e : s.1.2.1.1.2 = 0) : ∃ s' : CBS, f_W_load 200 s = some (-4, s') ∧ s'.1.1 = s.1.1 := by
  unfold f_W_load
  rw [e]
  exact ⟨_, rfl, rfl⟩
theorem q_setFirst (h : OB M D K N Q R F ks t1 t2 s) {M' D' K' : Nat} (hM : 2 ≤ M' ∧ M' ≤ 24) (hD : 1 ≤ D' ∧ D' ≤ 8) (hK : 1 ≤ K' ∧ K' ≤ 4) : ∃ s' : CBS, f_W_setFirst 200 (nI M') (nI D') (nI K') s = some (nI M, s') ∧ OB M' D' K' N Q R F ks (fun _ => 0) (fun _ => 0) s' := by
  obtain ⟨⟨r1, m1, n1, r2, m2, n2, e, hn⟩, H⟩ := h
  obtain ⟨h', n, g1, g2, g3, g4⟩ := q_push (st := mkS M D K N Q R F ks t1 r1 m1 n1 t2 r2 m2 n2) H
  obtain ⟨a1, a2, a3, a4, a5, a6, a7, a8, a9, a10, a11, sm1, sm2⟩ := hn
  unfold f_W_setFirst f_CB_setFirst
  rw [e, p_from, if_pos (show (2 : Int32) ≤ nI M' ∧ nI M' ≤ 24 from ⟨nI_le (a := 2) hM.1 (by omega), nI_le (b := 24) hM.2 (by omega)⟩), cx_ob, if_neg cx_i1, p_from, if_pos (show (1 : Int32) ≤ nI D' ∧ nI D' ≤ 8 from ⟨nI_le (a := 1) hD.1 (by omega), nI_le (b := 8) hD.2 (by omega)⟩), cx_ob, if_neg cx_i1, p_from, if_pos (show (1 : Int32) ≤ nI K' ∧ nI K' ≤ 4 from ⟨nI_le (a := 1) hK.1 (by omega), nI_le (b := 4) hK.2 (by omega)⟩), cx_ob, if_neg cx_i1, g1, cx_ob, cx_ob]
  exact ⟨_, rfl, ⟨fun _ => 0, fun _ => 0, fun _ => 0, fun _ => 0, fun _ => 0, fun _ => 0, rfl, hM, hD, hK, a4, a5, a6, a7, a8, a9, fun f hf => ⟨0, 0, by omega, by omega, rfl, rfl⟩, fun f hf _ => ⟨rfl, rfl⟩, sem0, sem0⟩, n + 1, by omega, g3⟩
theorem q_setFirst_bad : ∃ s' : CBS, f_W_setFirst 200 1 1 1 s = some (-3, s') ∧ s'.1.1 = s.1.1 := by
  unfold f_W_setFirst f_CB_setFirst
  rw [p_from, if_neg (by decide), cx_ob, if_pos rfl, cx_ob]
  exact ⟨_, rfl, rfl⟩
theorem q_setSecond (h : OB M D K N Q R F ks t1 t2 s) {N' Q' : Nat} (hN : 1 ≤ N' ∧ N' ≤ 16) (hQ : 1 ≤ Q' ∧ Q' ≤ 3) : ∃ s' : CBS, f_W_setSecond 200 (nI N') (nI Q') s = some (nI N, s') ∧ OB M D K N' Q' R F ks (fun _ => 0) (fun _ => 0) s' := by
  obtain ⟨⟨r1, m1, n1, r2, m2, n2, e, hn⟩, H⟩ := h
  obtain ⟨h', n, g1, g2, g3, g4⟩ := q_push (st := mkS M D K N Q R F ks t1 r1 m1 n1 t2 r2 m2 n2) H
  obtain ⟨a1, a2, a3, a4, a5, a6, a7, a8, a9, a10, a11, sm1, sm2⟩ := hn
  unfold f_W_setSecond f_CB_setSecond
  rw [e, p_from, if_pos (show (1 : Int32) ≤ nI N' ∧ nI N' ≤ 16 from ⟨nI_le (a := 1) hN.1 (by omega), nI_le (b := 16) hN.2 (by omega)⟩), cx_ob, if_neg cx_i1, p_from, if_pos (show (1 : Int32) ≤ nI Q' ∧ nI Q' ≤ 3 from ⟨nI_le (a := 1) hQ.1 (by omega), nI_le (b := 3) hQ.2 (by omega)⟩), cx_ob, if_neg cx_i1, g1, cx_ob, cx_ob]
  exact ⟨_, rfl, ⟨fun _ => 0, fun _ => 0, fun _ => 0, fun _ => 0, fun _ => 0, fun _ => 0, rfl, a1, a2, a3, hN, hQ, a6, a7, a8, a9, fun f hf => ⟨0, 0, by omega, by omega, rfl, rfl⟩, fun f hf _ => ⟨rfl, rfl⟩, sem0, sem0⟩, n + 1, by omega, g3⟩
theorem q_setRounds (h : OB M D K N Q R F ks t1 t2 s) {R' : Nat} (hR : R' ≤ 60) : ∃ s' : CBS, f_W_setRounds 200 (nI R') s = some (nI R, s') ∧ OB M D K N Q R' F ks t1 t2 s' := by
  obtain ⟨⟨r1, m1, n1, r2, m2, n2, e, hn⟩, H⟩ := h
  obtain ⟨h', n, g1, g2, g3, g4⟩ := q_push (st := mkS M D K N Q R F ks t1 r1 m1 n1 t2 r2 m2 n2) H
  obtain ⟨a1, a2, a3, a4, a5, a6, a7, a8, a9, a10, a11, sm1, sm2⟩ := hn
  unfold f_W_setRounds f_CB_setRounds
  rw [e, p_from, if_pos (show (0 : Int32) ≤ nI R' ∧ nI R' ≤ 60 from ⟨nI_pos' (by omega), nI_le (b := 60) hR (by omega)⟩), cx_ob, if_neg cx_i1, g1, cx_ob, cx_ob]
  exact ⟨_, rfl, ⟨r1, m1, n1, r2, m2, n2, rfl, a1, a2, a3, a4, a5, hR, a7, a8, a9, a10, a11, sm1, sm2⟩, n + 1, by omega, g3⟩
theorem q_SSkey {F : Nat} {y : Int32} {T : FJ} (hT : T F = 0) (c : Nat) : cx_SS M K ks T c = cx_SS M K (upd ks F y) T c := cx_sm_eq fun i _ => by
  by_cases q : i = F
  · subst q
    rw [hT]
    exact (ite_self _).trans (ite_self _).symm
  · rw [pk_un q]
theorem q_addFlow (h : OB M D K N Q R F ks t1 t2 s) {x : Nat} (hx : x ≤ 999) (hF : F < 16) : (∃ j, j < F ∧ ks j = nI x ∧ ∃ s' : CBS, f_W_addFlow 200 (nI x) s = some (-4, s') ∧ s'.1.1 = s.1.1) ∨ ((∀ j, j < F → ¬ ks j = nI x) ∧ ∃ s' : CBS, f_W_addFlow 200 (nI x) s = some (nI F, s') ∧ OB M D K N Q R (F + 1) (upd ks F (nI x)) t1 t2 s') := by
  obtain ⟨⟨r1, m1, n1, r2, m2, n2, e, hn⟩, H⟩ := h
  obtain ⟨h', n, g1, g2, g3, g4⟩ := q_push (st := mkS M D K N Q R F ks t1 r1 m1 n1 t2 r2 m2 n2) H
  obtain ⟨s1, s2, s3, s4, s5, s6, s7, s8, s9, s10, s11, s12, s13⟩ := hn
  unfold f_W_addFlow f_CB_addFlow
  rw [e, p_from, if_pos (show (0 : Int32) ≤ nI x ∧ nI x ≤ 999 from ⟨nI_pos' (by omega), nI_le (b := 999) hx (by omega)⟩), cx_ob, if_neg cx_i1]
  rcases q_find (x := nI x) (ks := ks) s7 with ⟨j, hj, e1, e2⟩ | ⟨e1, e2⟩
  · refine Or.inl ⟨j, hj, e1, ?_⟩
    dsimp only [mkS]
    rw [e2, cx_ob, if_neg (show ¬ nI j = (-1 : Int32) from fun w => by rw [nI_m1 (by omega)] at w; exact w), cx_ob]
    exact ⟨_, rfl, Prod.ext e.symm rfl⟩
  · refine Or.inr ⟨e1, ?_⟩
    unfold f_State_findOrAppend
    dsimp only [mkS] at g1 ⊢
    rw [e2, cx_ob, if_pos rfl, if_pos (cx_T16 hF), g1, cx_ob, cx_ob, if_pos rfl, if_neg (cx_G16 hF), if_pos (ck_nI (by omega) (by decide)), nI_clamp (by omega), nI_1, cx_ob, cx_ob]
    refine ⟨_, rfl, ⟨r1, m1, n1, r2, m2, n2, rfl, s1, s2, s3, s4, s5, s6, by omega, fun i hi => ?_, fun i j hij hj => ?_, s10, fun i hi hFi => s11 i hi (by omega), cx_SEM_eq s12 fun c _ => q_SSkey (s11 F hF (Nat.le_refl _)).1 c, cx_SEM_eq s13 fun c _ => q_SSkey (s11 F hF (Nat.le_refl _)).2 c⟩, n + 1, by omega, g3⟩
    · by_cases q : i = F
      · subst q; exact ⟨x, hx, pk_us⟩
      · rw [pk_un q]; exact s8 i (by omega)
    · by_cases q : j = F
      · subst q
        rw [pk_us, pk_un (by omega)]
        exact e1 i hij
      · rw [pk_un q, pk_un (by omega)]
        exact s9 i j hij (by omega)
theorem q_addFlow_bad : ∃ s' : CBS, f_W_addFlow 200 1000 s = some (-3, s') ∧ s'.1.1 = s.1.1 := by
  unfold f_W_addFlow f_CB_addFlow
  rw [p_from, if_neg (by decide), cx_ob, if_pos rfl, cx_ob]
  exact ⟨_, rfl, rfl⟩
/-- the true counts behind a count -/
def u1 (b f v : Nat) (t1 : FJ) : FJ := if b = 0 then vp_updL t1 f (t1 f + lN v) else t1
def u2 (b f v : Nat) (t2 : FJ) : FJ := if b = 0 then t2 else vp_updL t2 f (t2 f + lN v)
theorem q_count (h : OB M D K N Q R F ks t1 t2 s) {b f v a : Nat} (hb : b ≤ 1) (hf : f < F) (hv : 1 ≤ v ∧ v ≤ 1000000) (ea : tb b t1 t2 f = lN a) (hav : a + v ≤ 1000000000) : ∃ s' : CBS, f_W_count 200 (nI b) (nI f) (nI v) s = some (lN (a + v), s') ∧ OB M D K N Q R F ks (u1 b f v t1) (u2 b f v t2) s' ∧ ∃ n, n < 5 ∧ s'.1.1.2.2.2.2.2.2 = nI (n + 1) ∧ hslot s'.1.1.2 n = s.1.1.1 := by
  obtain ⟨⟨r1, m1, n1, r2, m2, n2, e, hn⟩, H⟩ := h
  obtain ⟨h', n, g1, g2, g3, g4⟩ := q_push (st := mkS M D K N Q R F ks t1 r1 m1 n1 t2 r2 m2 n2) H
  obtain ⟨s1, s2, s3, s4, s5, s6, s7, s8, s9, s10, s11, s12, s13⟩ := hn
  obtain ⟨x, hx, ex⟩ := s8 f hf
  have hm2 : lN (a + v) ≤ 1000000000 := (pk_lLE (b := 1000000000) (by omega) (by omega)).mpr hav
  unfold f_W_count f_CB_count
  rw [e]
  dsimp only [mkS] at g1 ⊢
  rw [qb hb, cx_ob, if_neg cx_i1, qf hf s7, cx_ob, if_neg cx_i1, p_from, if_pos (show (1 : Int32) ≤ nI v ∧ nI v ≤ 1000000 from ⟨nI_le (a := 1) hv.1 (by omega), nI_le (b := 1000000) hv.2 (by omega)⟩), cx_ob, if_neg cx_i1]
  rcases (show b = 0 ∨ b = 1 by omega) with rfl | rfl
  · have ea : t1 f = lN a := ea
    obtain ⟨r', m', n', c1, c2⟩ := cx_countF_f (F := F) (t := t1) s1 s2.2 s3.2 s4 s5.2 s7 hf ex hx (v := v) (by omega) s12
    have hm3 : t1 f + lN v ≤ 1000000000 := by
      rw [ea, lN_add]
      exact hm2
    rw [if_pos q00, if_pos (ck_nI (by omega) (by decide)), nI_clamp (by omega), nI_l (by omega), if_pos hm3, g1, cx_ob, c1, cx_ob, if_pos (ck_nI (by omega) (by decide)), cx_ob]
    refine ⟨_, congrArg (fun z => some (z, _)) (pk_uLs.trans (by rw [ea, lN_add])), ⟨⟨r', m', n', r2, m2, n2, ?_, s1, s2, s3, s4, s5, s6, s7, s8, s9, fun i hi => ?_, fun i hi hFi => ?_, ?_, s13⟩, n + 1, by omega, g3⟩, n, g2, g3, g4⟩
    · rfl
    · show ∃ a b : Nat, a ≤ 1000000000 ∧ b ≤ 1000000000 ∧ vp_updL t1 f (t1 f + lN v) i = lN a ∧ t2 i = lN b
      obtain ⟨p, q, hp, hq, ep, eq⟩ := s10 i hi
      by_cases z : i = f
      · subst z
        exact ⟨a + v, q, hav, hq, by rw [pk_uLs, ea, lN_add], eq⟩
      · exact ⟨p, q, hp, hq, by rw [pk_uLn z, ep], eq⟩
    · show vp_updL t1 f (t1 f + lN v) i = 0 ∧ t2 i = 0
      rw [pk_uLn (by omega)]
      exact s11 i hi hFi
    · exact cx_SEM_eq c2 fun c _ => (cx_SS_up (by omega) ex hx ea (by omega) c).symm
  · have ea : t2 f = lN a := ea
    obtain ⟨r', m', n', c1, c2⟩ := cx_countF_s (F := F) (t := t2) s1 s2.2 s3.2 s4 s5.2 s7 hf ex hx (v := v) (by omega) s13
    have hm3 : t2 f + lN v ≤ 1000000000 := by
      rw [ea, lN_add]
      exact hm2
    rw [if_neg q10, if_pos (ck_nI (by omega) (by decide)), nI_clamp (by omega), nI_l (by omega), if_pos hm3, g1, cx_ob, c1, cx_ob, if_pos (ck_nI (by omega) (by decide)), cx_ob]
    refine ⟨_, congrArg (fun z => some (z, _)) (pk_uLs.trans (by rw [ea, lN_add])), ⟨⟨r1, m1, n1, r', m', n', ?_, s1, s2, s3, s4, s5, s6, s7, s8, s9, fun i hi => ?_, fun i hi hFi => ?_, s12, ?_⟩, n + 1, by omega, g3⟩, n, g2, g3, g4⟩
    · rfl
    · show ∃ a b : Nat, a ≤ 1000000000 ∧ b ≤ 1000000000 ∧ t1 i = lN a ∧ vp_updL t2 f (t2 f + lN v) i = lN b
      obtain ⟨p, q, hp, hq, ep, eq⟩ := s10 i hi
      by_cases z : i = f
      · subst z
        exact ⟨p, a + v, hp, hav, ep, by rw [pk_uLs, ea, lN_add]⟩
      · exact ⟨p, q, hp, hq, ep, by rw [pk_uLn z, eq]⟩
    · show t1 i = 0 ∧ vp_updL t2 f (t2 f + lN v) i = 0
      rw [pk_uLn (by omega)]
      exact s11 i hi hFi
    · exact cx_SEM_eq c2 fun c _ => (cx_SS_up (by omega) ex hx ea (by omega) c).symm
theorem q_count_bad1 : ∃ s' : CBS, f_W_count 200 2 0 1 s = some (-2, s') ∧ s'.1.1 = s.1.1 := by
  unfold f_W_count f_CB_count f_CB_isBraid
  rw [p_from, if_neg (by decide), cx_ob, if_pos (Or.inl rfl), cx_ob, if_pos rfl, cx_ob]
  exact ⟨_, rfl, rfl⟩
theorem q_count_bad2 (h : OB M D K N Q R F ks t1 t2 s) (hF : 1 ≤ F) : ∃ s' : CBS, f_W_count 200 0 0 0 s = some (-3, s') ∧ s'.1.1 = s.1.1 := by
  obtain ⟨⟨r1, m1, n1, r2, m2, n2, e, hn⟩, H⟩ := h
  have e1 : f_CB_isBraid 0 = some 1 := qb (b := 0) (by omega)
  have e2 : f_CB_isFlow 0 (nI F) = some 1 := qf (f := 0) (by omega) hn.2.2.2.2.2.2.1
  unfold f_W_count f_CB_count
  rw [e]
  dsimp only [mkS]
  rw [e1, cx_ob, if_neg cx_i1, e2, cx_ob, if_neg cx_i1, p_from, if_neg (by decide), cx_ob, if_pos rfl, cx_ob]
  exact ⟨_, rfl, Prod.ext e.symm rfl⟩
/-- the sum of two braids' true counts -/
def addT (t t' : FJ) : FJ := fun f => if f < 16 then t f + t' f else t f
theorem addT_lN {t t' : FJ} {f a b : Nat} (hf : f < 16) (ea : t f = lN a) (eb : t' f = lN b) : addT t t' f = lN (a + b) := by
  unfold addT
  rw [if_pos hf, ea, eb, lN_add]
theorem q_SEMadd {t t' T : FJ} {r m : FI} {n : FJ} (h1 : ∀ f, f < 16 → ∃ a, a ≤ 1000000000 ∧ t f = lN a) (h2 : ∀ f, f < 16 → ∃ a, a ≤ 1000000000 ∧ t' f = lN a) (hT : ∀ f, T f = if f < 16 then t f + t' f else t f) (h : cx_SEM D N Q (fun c => cx_SS M K ks t c + cx_SS M K ks t' c) r m n) : cx_SEM D N Q (cx_SS M K ks T) r m n :=
  cx_SEM_eq h fun c _ => cx_SS_add h1 h2 (fun f hf => by rw [hT, if_pos hf]) c
theorem q_add10 (h : OB M D K N Q R F ks t1 t2 s) (hr : ∀ f, f < 16 → ∃ a b : Nat, t1 f = lN a ∧ t2 f = lN b ∧ a + b ≤ 1000000000) : ∃ s' : CBS, f_W_addBraid 200 1 0 s = some (nI (cx_jc D (cx_SS M K ks t1) (cx_SS M K ks t2) 24), s') ∧ OB M D K N Q R F ks (addT t1 t2) t2 s' := by
  have hT1 := ob_T h 0
  have hT2 := ob_T h 1
  obtain ⟨⟨r1, m1, n1, r2, m2, n2, e, hn⟩, H⟩ := h
  obtain ⟨h', n, g1, g2, g3, g4⟩ := q_push (st := mkS M D K N Q R F ks t1 r1 m1 n1 t2 r2 m2 n2) H
  obtain ⟨s1, s2, s3, s4, s5, s6, s7, s8, s9, s10, s11, s12, s13⟩ := hn
  obtain ⟨T, r', m', n', c1, c2, c3⟩ := cx_join (t := t1) (t' := t2) s2.2 s4 s5.2 s12 s13
  obtain rfl : T = addT t1 t2 := funext c3
  have e1 : f_CB_isBraid 1 = some 1 := qb (b := 1) (by omega)
  have e2 : f_CB_isBraid 0 = some 1 := qb (b := 0) (by omega)
  have e3 : f_Braid_hasRoomFor 200 t1 t2 = some 1 := cx_room.1 fun f hf => by
    obtain ⟨a, b, ea, eb, hab⟩ := hr f hf
    rw [ea, eb, lN_add]
    exact (pk_lLE (b := 1000000000) (by omega) (by omega)).mpr hab
  unfold f_W_addBraid f_CB_addBraid
  rw [e]
  dsimp only [mkS] at g1 ⊢
  rw [e1, cx_ob, if_neg cx_i1, e2, cx_ob, if_neg cx_i1, if_neg cx_i1, if_pos rfl, if_neg cx_i1, e3, cx_ob, if_neg cx_i1, g1, cx_ob, if_pos rfl, if_neg cx_i1, c1, cx_ob, cx_ob]
  refine ⟨_, rfl, ⟨r', m', n', r2, m2, n2, rfl, s1, s2, s3, s4, s5, s6, s7, s8, s9, fun i hi => ?_, fun i hi hFi => ?_, q_SEMadd hT1.1 hT2.1 (fun f => rfl) c2, s13⟩, n + 1, by omega, g3⟩
  · obtain ⟨a, b, ea, eb, hab⟩ := hr i hi
    exact ⟨a + b, b, hab, by omega, addT_lN hi ea eb, eb⟩
  · refine ⟨?_, (s11 i hi hFi).2⟩
    rw [addT_lN hi (a := 0) (b := 0) (s11 i hi hFi).1 (s11 i hi hFi).2]
    rfl
theorem q_add01 (h : OB M D K N Q R F ks t1 t2 s) (hr : ∀ f, f < 16 → ∃ a b : Nat, t2 f = lN a ∧ t1 f = lN b ∧ a + b ≤ 1000000000) : ∃ s' : CBS, f_W_addBraid 200 0 1 s = some (nI (cx_jc D (cx_SS M K ks t2) (cx_SS M K ks t1) 24), s') ∧ OB M D K N Q R F ks t1 (addT t2 t1) s' := by
  have hT1 := ob_T h 0
  have hT2 := ob_T h 1
  obtain ⟨⟨r1, m1, n1, r2, m2, n2, e, hn⟩, H⟩ := h
  obtain ⟨h', n, g1, g2, g3, g4⟩ := q_push (st := mkS M D K N Q R F ks t1 r1 m1 n1 t2 r2 m2 n2) H
  obtain ⟨s1, s2, s3, s4, s5, s6, s7, s8, s9, s10, s11, s12, s13⟩ := hn
  obtain ⟨T, r', m', n', c1, c2, c3⟩ := cx_join (t := t2) (t' := t1) s2.2 s4 s5.2 s13 s12
  obtain rfl : T = addT t2 t1 := funext c3
  have e1 : f_CB_isBraid 1 = some 1 := qb (b := 1) (by omega)
  have e2 : f_CB_isBraid 0 = some 1 := qb (b := 0) (by omega)
  have e3 : f_Braid_hasRoomFor 200 t2 t1 = some 1 := cx_room.1 fun f hf => by
    obtain ⟨a, b, ea, eb, hab⟩ := hr f hf
    rw [ea, eb, lN_add]
    exact (pk_lLE (b := 1000000000) (by omega) (by omega)).mpr hab
  unfold f_W_addBraid f_CB_addBraid
  rw [e]
  dsimp only [mkS] at g1 ⊢
  rw [e2, cx_ob, if_neg cx_i1, e1, cx_ob, if_neg cx_i1, if_neg (show ¬ (0 : Int32) = 1 by decide), if_neg cx_i1, if_pos rfl, e3, cx_ob, if_neg cx_i1, g1, cx_ob, if_neg cx_i1, if_pos rfl, c1, cx_ob, cx_ob]
  refine ⟨_, rfl, ⟨r1, m1, n1, r', m', n', rfl, s1, s2, s3, s4, s5, s6, s7, s8, s9, fun i hi => ?_, fun i hi hFi => ?_, s12, q_SEMadd hT2.1 hT1.1 (fun f => rfl) c2⟩, n + 1, by omega, g3⟩
  · obtain ⟨a, b, ea, eb, hab⟩ := hr i hi
    exact ⟨b, a + b, by omega, hab, eb, addT_lN hi ea eb⟩
  · refine ⟨(s11 i hi hFi).1, ?_⟩
    rw [addT_lN hi (a := 0) (b := 0) (s11 i hi hFi).2 (s11 i hi hFi).1]
    rfl
theorem q_add_bad : ∃ s' : CBS, f_W_addBraid 200 1 1 s = some (-3, s') ∧ s'.1.1 = s.1.1 := by
  have e1 : f_CB_isBraid 1 = some 1 := qb (b := 1) (by omega)
  unfold f_W_addBraid f_CB_addBraid
  rw [e1, cx_ob, if_neg cx_i1, cx_ob, if_neg cx_i1, if_pos rfl, cx_ob]
  exact ⟨_, rfl, rfl⟩
theorem q_clear1 (h : OB M D K N Q R F ks t1 t2 s) : ∃ s' : CBS, f_W_clear 200 1 s = some (cx_sL t2 16, s') ∧ OB M D K N Q R F ks t1 (fun _ => 0) s' := by
  obtain ⟨⟨r1, m1, n1, r2, m2, n2, e, hn⟩, H⟩ := h
  obtain ⟨h', n, g1, g2, g3, g4⟩ := q_push (st := mkS M D K N Q R F ks t1 r1 m1 n1 t2 r2 m2 n2) H
  obtain ⟨s1, s2, s3, s4, s5, s6, s7, s8, s9, s10, s11, s12, s13⟩ := hn
  have e1 : f_CB_isBraid 1 = some 1 := qb (b := 1) (by omega)
  unfold f_W_clear f_CB_clear
  rw [e]
  dsimp only [mkS] at g1 ⊢
  rw [e1, cx_ob, if_neg cx_i1, g1, cx_ob, if_neg cx_i1, cx_sumT, cx_ob, if_neg cx_i1, cx_ob]
  exact ⟨_, rfl, ⟨r1, m1, n1, fun _ => 0, fun _ => 0, fun _ => 0, rfl, s1, s2, s3, s4, s5, s6, s7, s8, s9, fun i hi => by obtain ⟨p, q, hp, hq, ep, eq⟩ := s10 i hi; exact ⟨p, 0, hp, by omega, ep, rfl⟩, fun i hi hFi => ⟨(s11 i hi hFi).1, rfl⟩, s12, sem0⟩, n + 1, by omega, g3⟩
theorem q_clear0 (h : OB M D K N Q R F ks t1 t2 s) : ∃ s' : CBS, f_W_clear 200 0 s = some (cx_sL t1 16, s') ∧ OB M D K N Q R F ks (fun _ => 0) t2 s' := by
  obtain ⟨⟨r1, m1, n1, r2, m2, n2, e, hn⟩, H⟩ := h
  obtain ⟨h', n, g1, g2, g3, g4⟩ := q_push (st := mkS M D K N Q R F ks t1 r1 m1 n1 t2 r2 m2 n2) H
  obtain ⟨s1, s2, s3, s4, s5, s6, s7, s8, s9, s10, s11, s12, s13⟩ := hn
  have e1 : f_CB_isBraid 0 = some 1 := qb (b := 0) (by omega)
  unfold f_W_clear f_CB_clear
  rw [e]
  dsimp only [mkS] at g1 ⊢
  rw [e1, cx_ob, if_neg cx_i1, g1, cx_ob, if_pos rfl, cx_sumT, cx_ob, if_pos rfl, cx_ob]
  exact ⟨_, rfl, ⟨fun _ => 0, fun _ => 0, fun _ => 0, r2, m2, n2, rfl, s1, s2, s3, s4, s5, s6, s7, s8, s9, fun i hi => by obtain ⟨p, q, hp, hq, ep, eq⟩ := s10 i hi; exact ⟨0, q, by omega, hq, rfl, eq⟩, fun i hi hFi => ⟨rfl, (s11 i hi hFi).2⟩, sem0, s13⟩, n + 1, by omega, g3⟩
end QW
