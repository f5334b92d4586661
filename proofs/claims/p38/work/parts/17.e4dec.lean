/-! the overflows: what both sides find -/
theorem cx_ct0 : ∀ p, cx_ct 0 p = 0 := by
  intro p
  induction p with
  | zero => rfl
  | succ p ih => rw [cx_ct, ih, cx_b0]; rfl
theorem cx_mi0 (g : FJ) : ∀ p, cx_mi g 0 p = 0 := by
  intro p
  induction p with
  | zero => rfl
  | succ p ih => rw [cx_mi, cx_b0, if_neg (by decide), ih]
theorem cx_fM0 (g : Nat → Int64) (x : Int64) : ∀ p, cx_fM g 0 x p = x := by
  intro p
  induction p with
  | zero => rfl
  | succ p ih => rw [cx_fM, cx_b0, if_neg (by decide), ih]
theorem cx_fm0 (g : Nat → Int64) (x : Int64) : ∀ p, cx_fm g 0 x p = x := by
  intro p
  induction p with
  | zero => rfl
  | succ p ih => rw [cx_fm, cx_b0, if_neg (by decide), ih]
def cx_bC (D N Q : Nat) (S : Nat → Nat) (c : Nat) : Int32 := if S c / 2 ^ D = 0 then 0 else cx_pU N Q c
def cx_lC (D : Nat) (S : Nat → Nat) (c : Nat) : Int64 := if S c / 2 ^ D = 0 then 0 else 1
def cx_sC (D N Q : Nat) (S : Nat → Nat) (u : Nat) : Nat := cx_sm (fun c => if cx_bt (cx_pU N Q c) u = true then S c / 2 ^ D else 0) 24
def cx_nC (D N Q : Nat) (S : Nat → Nat) (u : Nat) : Int64 := lN (cx_sC D N Q S u)
def cx_hC (D N Q : Nat) (S : Nat → Nat) (c : Nat) : Int64 := cx_mi (cx_nC D N Q S) (cx_bC D N Q S c) 24
def cx_OV (M D N Q R : Nat) (S : Nat → Nat) : FJ × FJ := cx_it M (cx_bC D N Q S) (cx_nC D N Q S) (cx_nC D N Q S) (cx_lC D S) (cx_hC D N Q S) R
theorem cx_bC_lt {D N Q c p : Nat} {S : Nat → Nat} (hN : 1 ≤ N ∧ N ≤ 16) (hp : p < 32) (h : cx_bt (cx_bC D N Q S c) p = true) : p < N ∧ ¬ S c / 2 ^ D = 0 ∧ cx_bt (cx_pU N Q c) p = true := by
  unfold cx_bC at h
  by_cases z : S c / 2 ^ D = 0
  · rw [if_pos z, cx_b0] at h; exact absurd h (by decide)
  · rw [if_neg z] at h
    exact ⟨cx_pU_lt (by omega) hN.2 hp h, z, h⟩
theorem cx_bC_ct {D N Q c p : Nat} {S : Nat → Nat} (hN : 1 ≤ N ∧ N ≤ 16) (hQ : Q ≤ 3) (hp : p ≤ 32) : cx_ct (cx_bC D N Q S c) p ≤ 4 := by
  unfold cx_bC
  by_cases z : S c / 2 ^ D = 0
  · rw [if_pos z, cx_ct0]; omega
  · rw [if_neg z]
    have := cx_pU_ct (N := N) (Q := Q) (x := c) (by omega) hN.2 p hp
    omega
theorem cx_dO {M D N Q R : Nat} {S : Nat → Nat} {r m : FI} {n : FJ} {a1 a2 a3 a4 a5 a6 : FJ} {a7 : Nat → FI} {a8 : FI} {a9 : Int32} (hM : M ≤ 24) (hN : 1 ≤ N ∧ N ≤ 16) (hQ : Q ≤ 3) (hR : R ≤ 60) (h : cx_SEM D N Q S r m n) :
    ∃ out : FJ × FJ × FJ × FJ × FJ × FJ × (Nat → FI) × FI × Int32, f_Decoder_decodeOverflows 200 a1 a2 a3 a4 a5 a6 a7 a8 a9 (nI M) (nI N) (nI Q) (nI R) m n = some out ∧ out.2.2.2.2.2.2.2.2 = nI M ∧ ∀ c, c < M → out.2.2.2.2.1 c = (cx_OV M D N Q R S).1 c ∧ out.2.2.2.2.2.1 c = (cx_OV M D N Q R S).2 c := by
  unfold f_Decoder_decodeOverflows
  generalize hKK : (fun (i15 : Int32) (c16 c17 : FJ) => f_Decoder_decodeOverflows_L53 200 c17 (nI M) (nI N) (nI Q) m (fun i33 c34 c35 c36 c37 c38 => (f_Bounds_narrow 200 (nI R) c16 c17 a3 a4 c34 c35 c36 c37 c38).bind (fun r39 => some (c16, c17, r39.2.1, r39.2.2.1, r39.2.2.2.1, r39.2.2.2.2, c36, c37, c38))) 200 0 a5 a6 a7 a8 0) = KK
  obtain ⟨g, hg, e⟩ := cx_lp (fun k j (s : FJ × FJ) => f_Decoder_decodeOverflows_L9 n KK k (nI j) s.1 s.2) (fun s => KK (nI 16) s.1 s.2) (fun j s => ∀ u, u < j → s.1 u = n u ∧ s.2 u = n u) 16
    (fun k s _ => by
      show f_Decoder_decodeOverflows_L9 n KK (k + 1) (nI 16) s.1 s.2 = _
      rw [f_Decoder_decodeOverflows_L9, if_pos (cx_L16 (by omega) (by omega))])
    (fun k j s hj hP => by
      refine ⟨(vp_updL s.1 j (n j), vp_updL s.2 j (n j)), fun u hu => ?_, ?_⟩
      · show vp_updL s.1 j _ u = _ ∧ vp_updL s.2 j _ u = _
        by_cases q : u = j
        · subst q; rw [pk_uLs, pk_uLs]; exact ⟨rfl, rfl⟩
        · rw [pk_uLn q, pk_uLn q]; exact hP u (by omega)
      · show f_Decoder_decodeOverflows_L9 n KK (k + 1) (nI j) s.1 s.2 = _
        rw [f_Decoder_decodeOverflows_L9, if_neg (cx_G16 (by omega))]
        simp (disch := omega) only [cx_ck, if_true, nI_clamp, nI_1]) 200 0 (a1, a2) (by omega) (by omega) (fun u hu => absurd hu (Nat.not_lt_zero u))
  have hgn : ∀ c p, p < 24 → cx_bt (cx_bC D N Q S c) p = true → g.1 p = cx_nC D N Q S p ∧ g.2 p = cx_nC D N Q S p := by
    intro c p hp hb
    have hl := (cx_bC_lt hN (by omega) hb).1
    rw [(hg p (by omega)).1, (hg p (by omega)).2]
    exact ⟨h.2 p (by omega), h.2 p (by omega)⟩
  generalize hK2 : (fun (i33 : Int32) (c34 c35 : FJ) (c36 : Nat → FI) (c37 : FI) (c38 : Int32) => (f_Bounds_narrow 200 (nI R) g.1 g.2 a3 a4 c34 c35 c36 c37 c38).bind (fun r39 => some (g.1, g.2, r39.2.1, r39.2.2.1, r39.2.2.2.1, r39.2.2.2.2, c36, c37, c38))) = K2
  obtain ⟨s, hP, e2⟩ := cx_lp (fun k j (s : FJ × FJ × (Nat → FI) × FI × Int32) => f_Decoder_decodeOverflows_L53 200 g.2 (nI M) (nI N) (nI Q) m K2 k (nI j) s.1 s.2.1 s.2.2.1 s.2.2.2.1 s.2.2.2.2) (fun s => K2 (nI M) s.1 s.2.1 s.2.2.1 s.2.2.2.1 s.2.2.2.2)
    (fun j s => s.2.2.2.2 = nI j ∧ (∀ c, c < j → s.1 c = cx_lC D S c ∧ s.2.1 c = cx_hC D N Q S c) ∧ cx_PL j (cx_bC D N Q S) s.2.2.1 s.2.2.2.1) M
    (fun k s _ => by
      show f_Decoder_decodeOverflows_L53 200 g.2 (nI M) (nI N) (nI Q) m K2 (k + 1) (nI M) _ _ _ _ _ = _
      rw [f_Decoder_decodeOverflows_L53, if_pos (nI_le (Nat.le_refl _) (by omega))])
    (fun k j s hj hP => by
      obtain ⟨pl', f1, f2, f3⟩ := cx_append (m := cx_bC D N Q S j) (start := cx_lC D S j) (g := g.2) (lo := s.1) (hi := s.2.1) (pl := s.2.2.1) (pc := s.2.2.2.1) (k := j) (by omega) (cx_bC_ct hN hQ (by omega))
      refine ⟨(vp_updL s.1 j (cx_lC D S j), vp_updL s.2.1 j (cx_mi g.2 (cx_bC D N Q S j) 24), pl', upd s.2.2.2.1 j (nI (cx_ct (cx_bC D N Q S j) 24)), nI (j + 1)), ⟨rfl, fun c hc => ?_, fun t ht => ?_⟩, ?_⟩
      · show vp_updL s.1 j _ c = _ ∧ vp_updL s.2.1 j _ c = _
        by_cases q : c = j
        · subst q
          rw [pk_uLs, pk_uLs]
          exact ⟨rfl, cx_mi_eq fun p hp hb => (hgn c p hp hb).2⟩
        · rw [pk_uLn q, pk_uLn q]; exact hP.2.1 c (by omega)
      · show upd s.2.2.2.1 j _ t = _ ∧ _ ∧ ∀ p, p < 24 → _ → pl' t _ = _
        refine ⟨?_, cx_bC_ct hN hQ (by omega), fun p hp hb => ?_⟩
        · by_cases q : t = j
          · subst q; exact pk_us
          · rw [pk_un q]; exact (hP.2.2 t (by omega)).1
        · by_cases q : t = j
          · subst q; exact f2 p hp hb
          · rw [f3 t q]; exact (hP.2.2 t (by omega)).2.2 p hp hb
      · show f_Decoder_decodeOverflows_L53 200 g.2 (nI M) (nI N) (nI Q) m K2 (k + 1) (nI j) _ _ _ _ _ = _
        rw [f_Decoder_decodeOverflows_L53, if_neg (nI_ge hj (by omega)), if_pos (ck_nI (by omega) (by decide)), nI_clamp (by omega), (h.1 j (by omega)).2, hP.1]
        by_cases z : S j / 2 ^ D = 0
        · have fb : cx_bC D N Q S j = 0 := if_pos z
          have fl : cx_lC D S j = 0 := if_pos z
          rw [fb, fl] at f1
          rw [if_pos z, if_neg (by decide), show (0 : Int32).toInt64 = 0 from rfl, f1, cx_ob, nI_1, fb, fl]
        · have fb : cx_bC D N Q S j = cx_pU N Q j := if_neg z
          have fl : cx_lC D S j = 1 := if_neg z
          rw [fb, fl] at f1
          rw [if_neg z, if_pos rfl, cx_plC (by omega) hN hQ, cx_ob, show (1 : Int32).toInt64 = 1 from rfl, f1, cx_ob, nI_1, fb, fl]) 200 0 (a5, a6, a7, a8, 0) (by omega) (by omega) ⟨rfl, fun c hc => absurd hc (Nat.not_lt_zero c), fun t ht => absurd ht (Nat.not_lt_zero t)⟩
  obtain ⟨ls, us, l2, h2, k1, k2⟩ := cx_narrow (R := R) (le := g.1) (gr := g.2) (lo := s.1) (hi := s.2.1) (a1 := a3) (a2 := a4) hP.2.2 hM hR
  refine ⟨(g.1, g.2, ls, us, l2, h2, s.2.2.1, s.2.2.2.1, nI M), ?_, rfl, fun c hc => ?_⟩
  · refine e.trans ?_
    rw [← hKK]
    show f_Decoder_decodeOverflows_L53 200 g.2 (nI M) (nI N) (nI Q) m _ 200 0 a5 a6 a7 a8 0 = _
    rw [hK2]
    refine e2.trans ?_
    rw [← hK2]
    show (f_Bounds_narrow 200 (nI R) g.1 g.2 a3 a4 s.1 s.2.1 s.2.2.1 s.2.2.2.1 s.2.2.2.2).bind _ = _
    rw [hP.1, k1, cx_ob]
  · obtain ⟨i1, i2⟩ := cx_it_eq (nt := M) (b := cx_bC D N Q S) (le := g.1) (le' := cx_nC D N Q S) (gr := g.2) (gr' := cx_nC D N Q S) (lo := s.1) (lo' := cx_lC D S) (hi := s.2.1) (hi' := cx_hC D N Q S) (fun _ _ => rfl) (fun t _ p hp hb => hgn t p hp hb) (fun s hs => (hP.2.1 s hs).1) (fun s hs => (hP.2.1 s hs).2) R c hc
    exact ⟨(k2 c hc).1.trans i1, (k2 c hc).2.trans i2⟩
/-- how many counters below one are marked -/
def cx_rk (D : Nat) (S : Nat → Nat) (c : Nat) : Nat := cx_sm (fun i => if S i / 2 ^ D = 0 then 0 else 1) c
theorem cx_rk_s {D : Nat} {S : Nat → Nat} (c : Nat) : cx_rk D S (c + 1) = cx_rk D S c + (if S c / 2 ^ D = 0 then 0 else 1) := rfl
theorem cx_rk_mono {D : Nat} {S : Nat → Nat} {a b : Nat} : a ≤ b → cx_rk D S a ≤ cx_rk D S b := by
  induction b with
  | zero => intro h; rw [show a = 0 by omega]; exact Nat.le_refl _
  | succ b ih =>
    intro h
    by_cases e : a = b + 1
    · subst e; exact Nat.le_refl _
    · have := ih (by omega)
      rw [cx_rk_s]; omega
theorem cx_rk_lt {D : Nat} {S : Nat → Nat} {a b : Nat} (h : a < b) (hm : ¬ S a / 2 ^ D = 0) : cx_rk D S a < cx_rk D S b := by
  have h1 : cx_rk D S (a + 1) ≤ cx_rk D S b := cx_rk_mono h
  rw [cx_rk_s, if_neg hm] at h1
  omega
theorem cx_rk_inj {D : Nat} {S : Nat → Nat} {a b : Nat} (ha : ¬ S a / 2 ^ D = 0) (hb : ¬ S b / 2 ^ D = 0) (e : cx_rk D S a = cx_rk D S b) : a = b := by
  rcases Nat.lt_trichotomy a b with h | h | h
  · have := cx_rk_lt h ha; omega
  · exact h
  · have := cx_rk_lt h hb; omega
theorem cx_rk_le {D : Nat} {S : Nat → Nat} : ∀ c, cx_rk D S c ≤ c := by
  intro c
  induction c with
  | zero => exact Nat.le_refl _
  | succ c ih =>
    rw [cx_rk_s]
    by_cases z : S c / 2 ^ D = 0
    · rw [if_pos z]; omega
    · rw [if_neg z]; omega
theorem cx_rk_inv {D : Nat} {S : Nat → Nat} : ∀ {M t : Nat}, t < cx_rk D S M → ∃ c, c < M ∧ ¬ S c / 2 ^ D = 0 ∧ cx_rk D S c = t := by
  intro M
  induction M with
  | zero => intro t h; exact absurd h (Nat.not_lt_zero t)
  | succ M ih =>
    intro t h
    rw [cx_rk_s] at h
    by_cases z : S M / 2 ^ D = 0
    · rw [if_pos z] at h
      obtain ⟨c, h1, h2, h3⟩ := ih (t := t) (by omega)
      exact ⟨c, by omega, h2, h3⟩
    · rw [if_neg z] at h
      by_cases e : t = cx_rk D S M
      · exact ⟨M, by omega, z, e.symm⟩
      · obtain ⟨c, h1, h2, h3⟩ := ih (t := t) (by omega)
        exact ⟨c, by omega, h2, h3⟩
theorem cx_sL_rk {D : Nat} {S : Nat → Nat} {g g' : Nat → Int64} : ∀ {M : Nat}, (∀ c, c < M → ¬ S c / 2 ^ D = 0 → g' (cx_rk D S c) = g c) → (∀ c, c < M → S c / 2 ^ D = 0 → g c = 0) → cx_sL g' (cx_rk D S M) = cx_sL g M := by
  intro M
  induction M with
  | zero => intro _ _; rfl
  | succ M ih =>
    intro h1 h2
    have ih := ih (fun c hc => h1 c (by omega)) (fun c hc => h2 c (by omega))
    rw [cx_rk_s, cx_sL]
    by_cases z : S M / 2 ^ D = 0
    · rw [if_pos z, Nat.add_zero, ih, h2 M (by omega) z, Int64.add_zero]
    · rw [if_neg z, cx_sL, ih, h1 M (by omega) z]
theorem cx_cmp {M D : Nat} {S : Nat → Nat} {b b' : Nat → Int32} {le gr lo hi lo' hi' : FJ} (hb : ∀ c, c < M → ¬ S c / 2 ^ D = 0 → b' (cx_rk D S c) = b c) (hb0 : ∀ c, c < M → S c / 2 ^ D = 0 → b c = 0) (h : ∀ c, c < M → ¬ S c / 2 ^ D = 0 → lo' (cx_rk D S c) = lo c ∧ hi' (cx_rk D S c) = hi c) (h0 : ∀ c, c < M → S c / 2 ^ D = 0 → lo c = 0 ∧ hi c = 0) :
    ∀ k, (∀ c, c < M → ¬ S c / 2 ^ D = 0 → (cx_it (cx_rk D S M) b' le gr lo' hi' k).1 (cx_rk D S c) = (cx_it M b le gr lo hi k).1 c ∧ (cx_it (cx_rk D S M) b' le gr lo' hi' k).2 (cx_rk D S c) = (cx_it M b le gr lo hi k).2 c) ∧ (∀ c, c < M → S c / 2 ^ D = 0 → (cx_it M b le gr lo hi k).1 c = 0 ∧ (cx_it M b le gr lo hi k).2 c = 0) := by
  have ot : ∀ {v v' : FJ} {c p : Nat}, c < M → ¬ S c / 2 ^ D = 0 → (∀ c, c < M → ¬ S c / 2 ^ D = 0 → v' (cx_rk D S c) = v c) → cx_ot (cx_rk D S M) b' v' (cx_rk D S c) p = cx_ot M b v c p := by
    intro v v' c p hc hm hv
    refine cx_sL_rk (fun i hi hz => ?_) (fun i hi hz => ?_)
    · by_cases q : i = c
      · subst q; rw [if_pos rfl, if_pos rfl]
      · rw [if_neg q, if_neg (fun e => q (cx_rk_inj hz hm e)), hb i hi hz, hv i hi hz]
    · by_cases q : i = c
      · subst q; exact absurd hz hm
      · rw [if_neg q, hb0 i hi hz, cx_b0, if_neg (by decide)]
  intro k
  induction k with
  | zero => exact ⟨h, h0⟩
  | succ k ih =>
    refine ⟨fun c hc hz => ⟨?_, ?_⟩, fun c hc hz => ⟨?_, ?_⟩⟩
    · show cx_rl _ b' le _ _ (cx_rk D S c) = cx_rl M b le _ _ c
      unfold cx_rl
      rw [hb c hc hz, (ih.1 c hc hz).1]
      exact cx_fM_eq rfl fun p hp hw => by rw [ot hc hz (fun i hi hm => (ih.1 i hi hm).2)]
    · show cx_rh _ b' gr _ _ (cx_rk D S c) = cx_rh M b gr _ _ c
      unfold cx_rh
      rw [hb c hc hz, (ih.1 c hc hz).2]
      exact cx_fm_eq rfl fun p hp hw => by rw [ot hc hz (fun i hi hm => (ih.1 i hi hm).1)]
    · show cx_rl M b le _ _ c = 0
      unfold cx_rl
      rw [hb0 c hc hz, cx_fM0]; exact (ih.2 c hc hz).1
    · show cx_rh M b gr _ _ c = 0
      unfold cx_rh
      rw [hb0 c hc hz, cx_fm0]; exact (ih.2 c hc hz).2
/-- the true overflows lie between the bounds -/
theorem cx_sm_ext {g : Nat → Nat} {M : Nat} : ∀ {n : Nat}, M ≤ n → (∀ i, M ≤ i → i < n → g i = 0) → cx_sm g n = cx_sm g M := by
  intro n
  induction n with
  | zero => intro h _; rw [show M = 0 by omega]
  | succ n ih =>
    intro h e
    by_cases q : M = n + 1
    · subst q; rfl
    · rw [cx_sm, e n (by omega) (by omega), Nat.add_zero]
      exact ih (by omega) (fun i h1 h2 => e i h1 (by omega))
theorem cx_sC_b {D N Q : Nat} {S : Nat → Nat} (hS : ∀ c, c < 24 → S c ≤ 2 ^ 34) (u : Nat) : cx_sC D N Q S u ≤ 2 ^ 40 := by
  have : cx_sC D N Q S u ≤ 24 * 2 ^ 34 := cx_sm_b fun c hc => by
    have h1 : S c / 2 ^ D ≤ S c := Nat.div_le_self _ _
    have h2 := hS c hc
    by_cases z : cx_bt (cx_pU N Q c) u = true
    · rw [if_pos z]; omega
    · rw [if_neg z]; omega
  omega
theorem cx_OV_snd {M D N Q : Nat} {S : Nat → Nat} (hM : M ≤ 24) (hN : 1 ≤ N ∧ N ≤ 16) (hQ : 1 ≤ Q) (hS : ∀ c, c < 24 → S c ≤ 2 ^ 34) (h0 : ∀ c, c < 24 → M ≤ c → S c = 0) (R : Nat) : cx_IV M (fun c => S c / 2 ^ D) (2 ^ 40) (cx_OV M D N Q R S).1 (cx_OV M D N Q R S).2 := by
  have hX : ∀ p, p < 24 → cx_X M (cx_bC D N Q S) (fun c => S c / 2 ^ D) p = cx_sC D N Q S p := by
    intro p hp
    unfold cx_X cx_sC
    rw [cx_sm_ext (g := fun c => if cx_bt (cx_pU N Q c) p = true then S c / 2 ^ D else 0) hM (fun i h1 h2 => by
      rw [h0 i h2 h1, Nat.zero_div, ite_self])]
    refine cx_sm_eq fun c hc => ?_
    unfold cx_bC
    by_cases z : S c / 2 ^ D = 0
    · simp only [z, ite_self]
    · rw [if_neg z]
  refine cx_snd_it hM (by omega) (fun t ht p hp hb => ?_) (fun t ht => ?_) R
  · exact ⟨_, _, rfl, rfl, by rw [hX p hp]; exact Nat.le_refl _, by rw [hX p hp]; exact Nat.le_refl _, cx_sC_b hS p⟩
  · unfold cx_lC cx_hC cx_bC
    by_cases z : S t / 2 ^ D = 0
    · rw [if_pos z, if_pos z, cx_mi0]
      exact ⟨0, 0, rfl, rfl, Nat.zero_le _, Nat.le_of_eq z, Nat.zero_le _⟩
    · rw [if_neg z, if_neg z]
      obtain ⟨q, q1, q2⟩ := cx_pU_ex (N := N) (Q := Q) (x := t) (by omega) hN.2 hQ
      obtain ⟨u, u1, u2, u3⟩ := cx_mi_b (g := cx_nC D N Q S) (m := cx_pU N Q t) (x := S t / 2 ^ D) (B := 2 ^ 40) 24 (fun p hp hb => ⟨_, rfl, by
        have := cx_sm_mem (g := fun c => if cx_bt (cx_pU N Q c) p = true then S c / 2 ^ D else 0) (n := 24) (k := t) (by omega)
        rw [if_pos hb] at this
        exact this, cx_sC_b hS p⟩) (cx_ct_pos q2 (by omega))
      exact ⟨1, u, rfl, u1, Nat.pos_of_ne_zero z, u2, u3⟩
theorem cx_SEM01 {D N Q : Nat} {S : Nat → Nat} {r m : FI} {n : FJ} (h : cx_SEM D N Q S r m n) : ∀ c, c < 24 → (m c = 0 ∨ m c = 1) := by
  intro c hc
  rw [(h.1 c hc).2]
  by_cases z : S c / 2 ^ D = 0
  · rw [if_pos z]; exact Or.inl rfl
  · rw [if_neg z]; exact Or.inr rfl
